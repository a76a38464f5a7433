def f_X5_add (s : ST) (a2 : Int) : ST × Int :=
  bd (s.1 36 0) fun v4 => if v4 < 128 then (bd (sI s 36 0 ((v4 + 1))) fun s12 => bd (sI s12 37 (v4).toNat a2) fun s14 => bd (sI s14 38 (v4).toNat (-1)) fun s16 => bd (sI s16 39 (v4).toNat (-1)) fun s18 => bd (sI s18 40 (v4).toNat (-1)) fun s20 => bd (sI s20 41 (v4).toNat (-1)) fun s22 => (s22, v4)) else ((s, (-1)))
set_option maxHeartbeats 4000000 in
set_option maxRecDepth 100000 in
theorem s_X5_add_f (l : Launch) (d : Nat) {P : PP} {h : HP} (hv : Iv P h) (a2 : Int32) (a2l : -1 ≤ a2.toInt) (a2u : a2.toInt ≤ 39) : Mt l yX5_add cX5_add 3 (some .int) (d + 1) [.ref 36, .int a2] h 0 0 (fun r h' => ∃ v : Int32, r = some (.int v) ∧ -1 ≤ v.toInt ∧ v.toInt ≤ 127 ∧ Iv P h' ∧ ((h'.2.1 34 2).toInt = (h.2.1 34 2).toInt) ∧ ((h'.2.1 34 1).toInt = (h.2.1 34 1).toInt) ∧ ((h'.2.1 34 7).toInt = (h.2.1 34 7).toInt) ∧ ((st h', v.toInt) = f_X5_add (st h) a2.toInt) ∧ (FX KC0 h h') ∧ (PR h → PR h')) := by
  refine Mt_iv hv (by decide) (Nat.le_of_ble_eq_true rfl) ?_
  show Go l RX5 cX5_add 3 (g_rm (d + 1) 0 0) "add" (some .int) 117 0 0 (fun _ _ => True) (fun r h' => ∃ v : Int32, r = some (.int v) ∧ -1 ≤ v.toInt ∧ v.toInt ≤ 127 ∧ Iv P h' ∧ ((h'.2.1 34 2).toInt = (h.2.1 34 2).toInt) ∧ ((h'.2.1 34 1).toInt = (h.2.1 34 1).toInt) ∧ ((h'.2.1 34 7).toInt = (h.2.1 34 7).toInt) ∧ ((st h', v.toInt) = f_X5_add (st h) a2.toInt) ∧ (FX KC0 h h') ∧ (PR h → PR h')) 0 0 [(0, .ref 36), (1, .int a2)] [] h
  have pr : PR h → PR h := id
  have fx : FX KC0 h h := FX.rfl
  obtain ⟨fin, kf⟩ : ∃ z, z = f_X5_add (st h) a2.toInt := ⟨_, _root_.rfl⟩
  have k0 := kf
  unfold f_X5_add at k0
  obtain ⟨u34_2, u34_2w⟩ : ∃ v : Int32, v = h.2.1 34 2 := ⟨_, rfl⟩
  have u34_2e : (h.2.1 34 2).toInt = u34_2.toInt := by rw [u34_2w]
  have u34_2l : 0 ≤ u34_2.toInt := by rw [u34_2w]; exact (hv.2.1 34 2).1
  have u34_2u : u34_2.toInt ≤ 500 := by rw [u34_2w]; exact (hv.2.1 34 2).2
  obtain ⟨u34_1, u34_1w⟩ : ∃ v : Int32, v = h.2.1 34 1 := ⟨_, rfl⟩
  have u34_1e : (h.2.1 34 1).toInt = u34_1.toInt := by rw [u34_1w]
  have u34_1l : 0 ≤ u34_1.toInt := by rw [u34_1w]; exact (hv.2.1 34 1).1
  have u34_1u : u34_1.toInt ≤ 500 := by rw [u34_1w]; exact (hv.2.1 34 1).2
  obtain ⟨u34_7, u34_7w⟩ : ∃ v : Int32, v = h.2.1 34 7 := ⟨_, rfl⟩
  have u34_7e : (h.2.1 34 7).toInt = u34_7.toInt := by rw [u34_7w]
  have u34_7l : 0 ≤ u34_7.toInt := by rw [u34_7w]; exact (hv.2.1 34 7).1
  have u34_7u : u34_7.toInt ≤ 7 := by rw [u34_7w]; exact (hv.2.1 34 7).2
  have k1 := k0
  have k2 := k1
  have k3 := k2
  refine go_aload_n (pc := 0) rfl dX5_add_0 ?_
  refine gi_get (pc := 1) (lo := 0) (hi := 128) hv fL_X5_9 rfl (Nat.le_of_ble_eq_true rfl) rfl rfl dX5_add_1 (fun v4 v4l v4u v4w => ?_)
  have k5 := bd_e k3 (congrArg Int32.toInt v4w.symm)
  refine go_sipush (pc := 4) (v := 128) (by decide) dX5_add_4 ?_
  refine gf_icmp_lt (pc := 7) (tgt := 12) (ti_rfl v4) (ti_c (v := 128) (a := 128) (by decide)) (by decide) dX5_add_7 (fun q6 => ?_) (fun q6 => ?_)
  ·
    have k7 := if_t k5 q6
    refine go_aload_n (pc := 12) rfl dX5_add_12 ?_
    refine gi_get (pc := 13) (lo := 0) (hi := 128) hv fL_X5_9 rfl (Nat.le_of_ble_eq_true rfl) rfl rfl dX5_add_13 (fun v8 v8l v8u v8w => ?_)
    have v8r : v4 = h.2.1 36 0 := v4w
    have v8q : TI v8 v4.toInt := by rw [v8w.trans v8r.symm]; exact (ti_rfl v4)
    refine go_istore_n (pc := 16) (Nat.le_of_ble_eq_true rfl) dX5_add_16 (go_lv (lv2 := [(0, .ref 36), (1, .int a2), (2, .int v8)]) rfl ?_)
    refine go_aload_n (pc := 17) rfl dX5_add_17 ?_
    refine go_dup (pc := 18) rfl dX5_add_18 ?_
    refine gi_get (pc := 19) (lo := 0) (hi := 128) hv fL_X5_9 rfl (Nat.le_of_ble_eq_true rfl) rfl rfl dX5_add_19 (fun v9 v9l v9u v9w => ?_)
    have v9r : v4 = h.2.1 36 0 := v4w
    have v9q : TI v9 v4.toInt := by rw [v9w.trans v9r.symm]; exact (ti_rfl v4)
    refine go_iconst (pc := 22) (v := 1) (by decide) dX5_add_22 ?_
    refine gf_iadd (pc := 23) v9q (ti_c (v := 1) (a := 1) (by decide)) (by omega) (by omega) dX5_add_23 (fun v10 e11 => ?_)
    refine gi_put (pc := 24) (lo := 0) (hi := 128) hv e11 (fP_X5_9 _) rfl (Nat.le_of_ble_eq_true rfl) rfl rfl (by omega) (by omega) rfl rfl (by decide) (by decide) (by decide) (by decide) dX5_add_24 (fun h12 hv12 hv12e => ?_)
    have pr12 : PR h → PR h12 := fun z => by rw [hv12e]; exact PR.put hv (pr z) (by omega)
    have fx12 : FX KC0 h h12 := FX.pI fx hv12e (by unfold KC0; omega)
    have k13 := bd_e k7 (st_I hv12e e11)
    refine go_aload_n (pc := 27) rfl dX5_add_27 ?_
    refine gi_getF (pc := 28) (q := 37) hv12 fL_X5_15 rfl (Nat.le_of_ble_eq_true rfl) rfl (hv12.rf (by decide)) dX5_add_28 ?_
    refine go_iload_n (pc := 31) rfl dX5_add_31 ?_
    refine go_iload_n (pc := 32) rfl dX5_add_32 ?_
    refine gi_iast (pc := 33) (lo := -1) (hi := 39) (len := 128) hv12 v8q (ti_rfl a2) rfl (by omega) (by omega) (fun _ => rfl) (by omega) (by omega) (by decide) dX5_add_33 (fun h14 hv14 hv14e => ?_)
    have pr14 : PR h → PR h14 := fun z => by rw [hv14e]; exact PR.put hv12 (pr12 z) (by omega)
    have fx14 : FX KC0 h h14 := FX.pI fx12 hv14e (by unfold KC0; omega)
    have k15 := bd_e k13 (st_I hv14e (ti_rfl a2))
    refine go_aload_n (pc := 34) rfl dX5_add_34 ?_
    refine gi_getF (pc := 35) (q := 38) hv14 fL_X5_19 rfl (Nat.le_of_ble_eq_true rfl) rfl (hv14.rf (by decide)) dX5_add_35 ?_
    refine go_iload_n (pc := 38) rfl dX5_add_38 ?_
    refine go_iconst (pc := 39) (v := (-1)) (by decide) dX5_add_39 ?_
    refine gi_iast (pc := 40) (lo := -1) (hi := 127) (len := 128) hv14 v8q (ti_c (v := (-1)) (a := (-1)) (by decide)) rfl (by omega) (by omega) (fun _ => rfl) (by omega) (by omega) (by decide) dX5_add_40 (fun h16 hv16 hv16e => ?_)
    have pr16 : PR h → PR h16 := fun z => by rw [hv16e]; exact PR.put hv14 (pr14 z) (by omega)
    have fx16 : FX KC0 h h16 := FX.pI fx14 hv16e (by unfold KC0; omega)
    have k17 := bd_e k15 (st_I hv16e (ti_c (v := (-1)) (a := (-1)) (by decide)))
    refine go_aload_n (pc := 41) rfl dX5_add_41 ?_
    refine gi_getF (pc := 42) (q := 39) hv16 fL_X5_22 rfl (Nat.le_of_ble_eq_true rfl) rfl (hv16.rf (by decide)) dX5_add_42 ?_
    refine go_iload_n (pc := 45) rfl dX5_add_45 ?_
    refine go_iconst (pc := 46) (v := (-1)) (by decide) dX5_add_46 ?_
    refine gi_iast (pc := 47) (lo := -1) (hi := 127) (len := 128) hv16 v8q (ti_c (v := (-1)) (a := (-1)) (by decide)) rfl (by omega) (by omega) (fun _ => rfl) (by omega) (by omega) (by decide) dX5_add_47 (fun h18 hv18 hv18e => ?_)
    have pr18 : PR h → PR h18 := fun z => by rw [hv18e]; exact PR.put hv16 (pr16 z) (by omega)
    have fx18 : FX KC0 h h18 := FX.pI fx16 hv18e (by unfold KC0; omega)
    have k19 := bd_e k17 (st_I hv18e (ti_c (v := (-1)) (a := (-1)) (by decide)))
    refine go_aload_n (pc := 48) rfl dX5_add_48 ?_
    refine gi_getF (pc := 49) (q := 40) hv18 fL_X5_25 rfl (Nat.le_of_ble_eq_true rfl) rfl (hv18.rf (by decide)) dX5_add_49 ?_
    refine go_iload_n (pc := 52) rfl dX5_add_52 ?_
    refine go_iconst (pc := 53) (v := (-1)) (by decide) dX5_add_53 ?_
    refine gi_iast (pc := 54) (lo := -1) (hi := 127) (len := 128) hv18 v8q (ti_c (v := (-1)) (a := (-1)) (by decide)) rfl (by omega) (by omega) (fun _ => rfl) (by omega) (by omega) (by decide) dX5_add_54 (fun h20 hv20 hv20e => ?_)
    have pr20 : PR h → PR h20 := fun z => by rw [hv20e]; exact PR.put hv18 (pr18 z) (by omega)
    have fx20 : FX KC0 h h20 := FX.pI fx18 hv20e (by unfold KC0; omega)
    have k21 := bd_e k19 (st_I hv20e (ti_c (v := (-1)) (a := (-1)) (by decide)))
    refine go_aload_n (pc := 55) rfl dX5_add_55 ?_
    refine gi_getF (pc := 56) (q := 41) hv20 fL_X5_28 rfl (Nat.le_of_ble_eq_true rfl) rfl (hv20.rf (by decide)) dX5_add_56 ?_
    refine go_iload_n (pc := 59) rfl dX5_add_59 ?_
    refine go_iconst (pc := 60) (v := (-1)) (by decide) dX5_add_60 ?_
    refine gi_iast (pc := 61) (lo := -1) (hi := 5) (len := 128) hv20 v8q (ti_c (v := (-1)) (a := (-1)) (by decide)) rfl (by omega) (by omega) (fun _ => rfl) (by omega) (by omega) (by decide) dX5_add_61 (fun h22 hv22 hv22e => ?_)
    have pr22 : PR h → PR h22 := fun z => by rw [hv22e]; exact PR.put hv20 (pr20 z) (by omega)
    have fx22 : FX KC0 h h22 := FX.pI fx20 hv22e (by unfold KC0; omega)
    have k23 := bd_e k21 (st_I hv22e (ti_c (v := (-1)) (a := (-1)) (by decide)))
    refine go_iload_n (pc := 62) rfl dX5_add_62 ?_
    have g24 : (0 : Int) ≤ (h22.2.1 34 1).toInt := (hv22.2.1 34 1).1
    have g25 : (h22.2.1 34 1).toInt ≤ 500 := (hv22.2.1 34 1).2
    have g26 : (0 : Int) ≤ (h22.2.1 34 2).toInt := (hv22.2.1 34 2).1
    have g27 : (h22.2.1 34 2).toInt ≤ 500 := (hv22.2.1 34 2).2
    have g28 : (0 : Int) ≤ (h22.2.1 34 7).toInt := (hv22.2.1 34 7).1
    have g29 : (h22.2.1 34 7).toInt ≤ 7 := (hv22.2.1 34 7).2
    have g30 : (h22.2.1 34 2).toInt = u34_2.toInt := by rw [← (show u34_2 = h22.2.1 34 2 from (show u34_2 = h22.2.1 34 2 from by rw [hv22e]; exact (g_iI rfl (show u34_2 = h20.2.1 34 2 from by rw [hv20e]; exact (g_iI rfl (show u34_2 = h18.2.1 34 2 from by rw [hv18e]; exact (g_iI rfl (show u34_2 = h16.2.1 34 2 from by rw [hv16e]; exact (g_iI rfl (show u34_2 = h14.2.1 34 2 from by rw [hv14e]; exact (g_iI rfl (show u34_2 = h12.2.1 34 2 from by rw [hv12e]; exact (g_iI rfl u34_2w.symm).symm).symm).symm).symm).symm).symm).symm).symm).symm).symm).symm))] <;> exact (ti_rfl u34_2)
    have g31 : (h22.2.1 34 1).toInt = u34_1.toInt := by rw [← (show u34_1 = h22.2.1 34 1 from (show u34_1 = h22.2.1 34 1 from by rw [hv22e]; exact (g_iI rfl (show u34_1 = h20.2.1 34 1 from by rw [hv20e]; exact (g_iI rfl (show u34_1 = h18.2.1 34 1 from by rw [hv18e]; exact (g_iI rfl (show u34_1 = h16.2.1 34 1 from by rw [hv16e]; exact (g_iI rfl (show u34_1 = h14.2.1 34 1 from by rw [hv14e]; exact (g_iI rfl (show u34_1 = h12.2.1 34 1 from by rw [hv12e]; exact (g_iI rfl u34_1w.symm).symm).symm).symm).symm).symm).symm).symm).symm).symm).symm).symm))] <;> exact (ti_rfl u34_1)
    have g32 : (h22.2.1 34 7).toInt = u34_7.toInt := by rw [← (show u34_7 = h22.2.1 34 7 from (show u34_7 = h22.2.1 34 7 from by rw [hv22e]; exact (g_iI rfl (show u34_7 = h20.2.1 34 7 from by rw [hv20e]; exact (g_iI rfl (show u34_7 = h18.2.1 34 7 from by rw [hv18e]; exact (g_iI rfl (show u34_7 = h16.2.1 34 7 from by rw [hv16e]; exact (g_iI rfl (show u34_7 = h14.2.1 34 7 from by rw [hv14e]; exact (g_iI rfl (show u34_7 = h12.2.1 34 7 from by rw [hv12e]; exact (g_iI rfl u34_7w.symm).symm).symm).symm).symm).symm).symm).symm).symm).symm).symm).symm))] <;> exact (ti_rfl u34_7)
    exact gi_iret (pc := 63) v8q ⟨_, rfl, (by rw [show (v8 : Int32).toInt = v4.toInt from v8q]; omega), (by rw [show (v8 : Int32).toInt = v4.toInt from v8q]; omega), hv22, (by omega), (by omega), (by omega), (by rw [show (v8 : Int32).toInt = v4.toInt from v8q]; exact k23.symm.trans kf), fx22, pr22⟩ hv22 dX5_add_63
  ·
    have k33 := if_f k5 (Int.not_lt.mpr q6)
    refine go_iconst (pc := 10) (v := (-1)) (by decide) dX5_add_10 ?_
    have g34 : (0 : Int) ≤ (h.2.1 34 1).toInt := (hv.2.1 34 1).1
    have g35 : (h.2.1 34 1).toInt ≤ 500 := (hv.2.1 34 1).2
    have g36 : (0 : Int) ≤ (h.2.1 34 2).toInt := (hv.2.1 34 2).1
    have g37 : (h.2.1 34 2).toInt ≤ 500 := (hv.2.1 34 2).2
    have g38 : (0 : Int) ≤ (h.2.1 34 7).toInt := (hv.2.1 34 7).1
    have g39 : (h.2.1 34 7).toInt ≤ 7 := (hv.2.1 34 7).2
    have g40 : (h.2.1 34 2).toInt = u34_2.toInt := by rw [← (show u34_2 = h.2.1 34 2 from u34_2w)] <;> exact (ti_rfl u34_2)
    have g41 : (h.2.1 34 1).toInt = u34_1.toInt := by rw [← (show u34_1 = h.2.1 34 1 from u34_1w)] <;> exact (ti_rfl u34_1)
    have g42 : (h.2.1 34 7).toInt = u34_7.toInt := by rw [← (show u34_7 = h.2.1 34 7 from u34_7w)] <;> exact (ti_rfl u34_7)
    exact gi_iret (pc := 11) (ti_c (v := (-1)) (a := (-1)) (by decide)) ⟨_, rfl, (by rw [show ((-1) : Int32).toInt = (-1) from (ti_c (v := (-1)) (a := (-1)) (by decide))]; omega), (by rw [show ((-1) : Int32).toInt = (-1) from (ti_c (v := (-1)) (a := (-1)) (by decide))]; omega), hv, (by omega), (by omega), (by omega), (by rw [show ((-1) : Int32).toInt = (-1) from (ti_c (v := (-1)) (a := (-1)) (by decide))]; exact k33.symm.trans kf), fx, pr⟩ hv dX5_add_11
def f_X3_addItem (s : ST) (a2 : Int) : ST × Int :=
  bd2 (f_X5_add s a2) fun s13 v19 => bd (s13.1 34 2) fun u23 => bd (s13.1 34 7) fun u25 => if 0 ≤ v19 then (bd (s13.1 46 ((u25 - 1)).toNat) fun v32 => bd (sI s13 38 (v19).toNat v32) fun s34 => bd (sI s34 46 ((u25 - 1)).toNat v19) fun s39 => (s39, v19)) else (bd (f_X3_blame s13 4 u23) fun s61 => (s61, v19))
set_option maxHeartbeats 4000000 in
set_option maxRecDepth 100000 in
theorem s_X3_addItem_f (l : Launch) (d : Nat) {P : PP} {h : HP} (hv : Iv P h) (a2 : Int32) (a2l : -1 ≤ a2.toInt) (a2u : a2.toInt ≤ 39) (hp : 1 ≤ (h.2.1 34 7).toInt) : Mt l yX3_addItem cX3_addItem 3 (some .int) (d + 2) [.ref 34, .int a2] h 0 0 (fun r h' => ∃ v : Int32, r = some (.int v) ∧ -1 ≤ v.toInt ∧ v.toInt ≤ 127 ∧ Iv P h' ∧ ((h'.2.1 34 2).toInt = (h.2.1 34 2).toInt) ∧ ((h'.2.1 34 1).toInt = (h.2.1 34 1).toInt) ∧ ((h'.2.1 34 7).toInt = (h.2.1 34 7).toInt) ∧ ((st h', v.toInt) = f_X3_addItem (st h) a2.toInt) ∧ (FX KC0 h h') ∧ (PR h → PR h')) := by
  refine Mt_iv hv (by decide) (Nat.le_of_ble_eq_true rfl) ?_
  show Go l RX3 cX3_addItem 3 (g_rm (d + 2) 0 0) "addItem" (some .int) 117 0 0 (fun _ _ => True) (fun r h' => ∃ v : Int32, r = some (.int v) ∧ -1 ≤ v.toInt ∧ v.toInt ≤ 127 ∧ Iv P h' ∧ ((h'.2.1 34 2).toInt = (h.2.1 34 2).toInt) ∧ ((h'.2.1 34 1).toInt = (h.2.1 34 1).toInt) ∧ ((h'.2.1 34 7).toInt = (h.2.1 34 7).toInt) ∧ ((st h', v.toInt) = f_X3_addItem (st h) a2.toInt) ∧ (FX KC0 h h') ∧ (PR h → PR h')) 0 0 [(0, .ref 34), (1, .int a2)] [] h
  have pr : PR h → PR h := id
  have fx : FX KC0 h h := FX.rfl
  obtain ⟨fin, kf⟩ : ∃ z, z = f_X3_addItem (st h) a2.toInt := ⟨_, _root_.rfl⟩
  have k0 := kf
  unfold f_X3_addItem at k0
  obtain ⟨u34_2, u34_2w⟩ : ∃ v : Int32, v = h.2.1 34 2 := ⟨_, rfl⟩
  have u34_2e : (h.2.1 34 2).toInt = u34_2.toInt := by rw [u34_2w]
  have u34_2l : 0 ≤ u34_2.toInt := by rw [u34_2w]; exact (hv.2.1 34 2).1
  have u34_2u : u34_2.toInt ≤ 500 := by rw [u34_2w]; exact (hv.2.1 34 2).2
  obtain ⟨u34_1, u34_1w⟩ : ∃ v : Int32, v = h.2.1 34 1 := ⟨_, rfl⟩
  have u34_1e : (h.2.1 34 1).toInt = u34_1.toInt := by rw [u34_1w]
  have u34_1l : 0 ≤ u34_1.toInt := by rw [u34_1w]; exact (hv.2.1 34 1).1
  have u34_1u : u34_1.toInt ≤ 500 := by rw [u34_1w]; exact (hv.2.1 34 1).2
  obtain ⟨u34_7, u34_7w⟩ : ∃ v : Int32, v = h.2.1 34 7 := ⟨_, rfl⟩
  have u34_7e : (h.2.1 34 7).toInt = u34_7.toInt := by rw [u34_7w]
  have u34_7l : 0 ≤ u34_7.toInt := by rw [u34_7w]; exact (hv.2.1 34 7).1
  have u34_7u : u34_7.toInt ≤ 7 := by rw [u34_7w]; exact (hv.2.1 34 7).2
  have k1 := k0
  have k2 := k1
  have k3 := k2
  refine go_aload_n (pc := 0) rfl dX3_addItem_0 ?_
  refine gi_getF (pc := 1) (q := 36) hv fL_X3_28 rfl (Nat.le_of_ble_eq_true rfl) rfl (hv.rf (by decide)) dX3_addItem_1 ?_
  refine go_iload_n (pc := 4) rfl dX3_addItem_4 ?_
  have g4 : (0 : Int) ≤ (h.2.1 34 1).toInt := (hv.2.1 34 1).1
  have g5 : (h.2.1 34 1).toInt ≤ 500 := (hv.2.1 34 1).2
  have g6 : (0 : Int) ≤ (h.2.1 34 2).toInt := (hv.2.1 34 2).1
  have g7 : (h.2.1 34 2).toInt ≤ 500 := (hv.2.1 34 2).2
  have g8 : (0 : Int) ≤ (h.2.1 34 7).toInt := (hv.2.1 34 7).1
  have g9 : (h.2.1 34 7).toInt ≤ 7 := (hv.2.1 34 7).2
  have g10 : (h.2.1 34 2).toInt = u34_2.toInt := by rw [← (show u34_2 = h.2.1 34 2 from u34_2w)] <;> exact (ti_rfl u34_2)
  have g11 : (h.2.1 34 1).toInt = u34_1.toInt := by rw [← (show u34_1 = h.2.1 34 1 from u34_1w)] <;> exact (ti_rfl u34_1)
  have g12 : (h.2.1 34 7).toInt = u34_7.toInt := by rw [← (show u34_7 = h.2.1 34 7 from u34_7w)] <;> exact (ti_rfl u34_7)
  refine go_invV (pc := 5) (sl := 0) (s_X5_add_f l (d + 0) hv a2 (by rw [show (a2 : Int32).toInt = a2.toInt from (ti_rfl a2)]; omega) (by rw [show (a2 : Int32).toInt = a2.toInt from (ti_rfl a2)]; omega)) mL_X3_151 iM_X5_add sM_X5_add (hv.sh rfl) rfl rfl rfl (Nat.le_of_ble_eq_true rfl) (show d + 0 + 1 + 1 ≤ d + 2 by omega) (show 8 + (3 + 11) + 40 * (d + 0 + 1) ≤ 40 * (d + 2) by omega) (g_c0 hv.ln) (Nat.le_of_ble_eq_true rfl) dX3_addItem_5 ?_
  intro r h13 hq _
  obtain ⟨v19, rfl, v19l, v19u, hv13, f14, f15, f16, f17, f18, pt13⟩ := hq
  have pr13 : PR h → PR h13 := fun z => pt13 (pr z)
  have fx13 : FX KC0 h h13 := FX.tr fx f18
  have k20 := bd2_e k3 f17
  obtain ⟨u21, u21w⟩ : ∃ v : Int32, v = h13.2.1 34 1 := ⟨_, rfl⟩
  have u21e : (h13.2.1 34 1).toInt = u21.toInt := by rw [u21w]
  have u21l : 0 ≤ u21.toInt := by rw [u21w]; exact (hv13.2.1 34 1).1
  have u21u : u21.toInt ≤ 500 := by rw [u21w]; exact (hv13.2.1 34 1).2
  have k22 := k20
  obtain ⟨u23, u23w⟩ : ∃ v : Int32, v = h13.2.1 34 2 := ⟨_, rfl⟩
  have u23e : (h13.2.1 34 2).toInt = u23.toInt := by rw [u23w]
  have u23l : 0 ≤ u23.toInt := by rw [u23w]; exact (hv13.2.1 34 2).1
  have u23u : u23.toInt ≤ 500 := by rw [u23w]; exact (hv13.2.1 34 2).2
  have k24 := bd_e k22 (congrArg Int32.toInt u23w.symm)
  obtain ⟨u25, u25w⟩ : ∃ v : Int32, v = h13.2.1 34 7 := ⟨_, rfl⟩
  have u25e : (h13.2.1 34 7).toInt = u25.toInt := by rw [u25w]
  have u25l : 0 ≤ u25.toInt := by rw [u25w]; exact (hv13.2.1 34 7).1
  have u25u : u25.toInt ≤ 7 := by rw [u25w]; exact (hv13.2.1 34 7).2
  have k26 := bd_e k24 (congrArg Int32.toInt u25w.symm)
  refine go_istore_n (pc := 8) (Nat.le_of_ble_eq_true rfl) dX3_addItem_8 (go_lv (lv2 := [(0, .ref 34), (1, .int a2), (2, .int v19)]) rfl ?_)
  refine go_iload_n (pc := 9) rfl dX3_addItem_9 ?_
  refine gf_if_ge (pc := 10) (tgt := 25) (ti_rfl v19) (by decide) dX3_addItem_10 (fun q27 => ?_) (fun q27 => ?_)
  ·
    have k28 := if_t k26 q27
    refine go_aload_n (pc := 25) rfl dX3_addItem_25 ?_
    refine gi_getF (pc := 26) (q := 36) hv13 fL_X3_28 rfl (Nat.le_of_ble_eq_true rfl) rfl (hv13.rf (by decide)) dX3_addItem_26 ?_
    refine gi_getF (pc := 29) (q := 38) hv13 fL_X3_154 rfl (Nat.le_of_ble_eq_true rfl) rfl (hv13.rf (by decide)) dX3_addItem_29 ?_
    refine go_iload_n (pc := 32) rfl dX3_addItem_32 ?_
    refine go_aload_n (pc := 33) rfl dX3_addItem_33 ?_
    refine gi_getF (pc := 34) (q := 46) hv13 fL_X3_39 rfl (Nat.le_of_ble_eq_true rfl) rfl (hv13.rf (by decide)) dX3_addItem_34 ?_
    refine go_aload_n (pc := 37) rfl dX3_addItem_37 ?_
    refine gi_get (pc := 38) (lo := 0) (hi := 7) hv13 fL_X3_32 rfl (Nat.le_of_ble_eq_true rfl) rfl rfl dX3_addItem_38 (fun v29 v29l v29u v29w => ?_)
    have v29r : u25 = h13.2.1 34 7 := u25w
    have v29q : TI v29 u25.toInt := by rw [v29w.trans v29r.symm]; exact (ti_rfl u25)
    refine go_iconst (pc := 41) (v := 1) (by decide) dX3_addItem_41 ?_
    refine gf_isub (pc := 42) v29q (ti_c (v := 1) (a := 1) (by decide)) (by omega) (by omega) dX3_addItem_42 (fun v30 e31 => ?_)
    refine gi_iald (pc := 43) (lo := -1) (hi := 127) (len := 7) hv13 e31 rfl (by omega) (by omega) (fun _ => rfl) dX3_addItem_43 (fun v32 v32l v32u v32w => ?_)
    have k33 := bd_e k28 (congrArg Int32.toInt v32w.symm)
    refine gi_iast (pc := 44) (lo := -1) (hi := 127) (len := 128) hv13 (ti_rfl v19) (ti_rfl v32) rfl (by omega) (by omega) (fun _ => rfl) (by omega) (by omega) (by decide) dX3_addItem_44 (fun h34 hv34 hv34e => ?_)
    have pr34 : PR h → PR h34 := fun z => by rw [hv34e]; exact PR.put hv13 (pr13 z) (by omega)
    have fx34 : FX KC0 h h34 := FX.pI fx13 hv34e (by unfold KC0; omega)
    have k35 := bd_e k33 (st_I hv34e (ti_rfl v32))
    refine go_aload_n (pc := 45) rfl dX3_addItem_45 ?_
    refine gi_getF (pc := 46) (q := 46) hv34 fL_X3_39 rfl (Nat.le_of_ble_eq_true rfl) rfl (hv34.rf (by decide)) dX3_addItem_46 ?_
    refine go_aload_n (pc := 49) rfl dX3_addItem_49 ?_
    refine gi_get (pc := 50) (lo := 0) (hi := 7) hv34 fL_X3_32 rfl (Nat.le_of_ble_eq_true rfl) rfl rfl dX3_addItem_50 (fun v36 v36l v36u v36w => ?_)
    have v36r : u25 = h34.2.1 34 7 := (show u25 = h34.2.1 34 7 from by rw [hv34e]; exact (g_iI rfl u25w.symm).symm)
    have v36q : TI v36 u25.toInt := by rw [v36w.trans v36r.symm]; exact (ti_rfl u25)
    refine go_iconst (pc := 53) (v := 1) (by decide) dX3_addItem_53 ?_
    refine gf_isub (pc := 54) v36q (ti_c (v := 1) (a := 1) (by decide)) (by omega) (by omega) dX3_addItem_54 (fun v37 e38 => ?_)
    refine go_iload_n (pc := 55) rfl dX3_addItem_55 ?_
    refine gi_iast (pc := 56) (lo := -1) (hi := 127) (len := 7) hv34 e38 (ti_rfl v19) rfl (by omega) (by omega) (fun _ => rfl) (by omega) (by omega) (by decide) dX3_addItem_56 (fun h39 hv39 hv39e => ?_)
    have pr39 : PR h → PR h39 := fun z => by rw [hv39e]; exact PR.put hv34 (pr34 z) (by omega)
    have fx39 : FX KC0 h h39 := FX.pI fx34 hv39e (by unfold KC0; omega)
    have k40 := bd_e k35 (st_I hv39e (ti_rfl v19))
    refine go_iload_n (pc := 57) rfl dX3_addItem_57 ?_
    have g41 : (0 : Int) ≤ (h39.2.1 34 1).toInt := (hv39.2.1 34 1).1
    have g42 : (h39.2.1 34 1).toInt ≤ 500 := (hv39.2.1 34 1).2
    have g43 : (0 : Int) ≤ (h39.2.1 34 2).toInt := (hv39.2.1 34 2).1
    have g44 : (h39.2.1 34 2).toInt ≤ 500 := (hv39.2.1 34 2).2
    have g45 : (0 : Int) ≤ (h39.2.1 34 7).toInt := (hv39.2.1 34 7).1
    have g46 : (h39.2.1 34 7).toInt ≤ 7 := (hv39.2.1 34 7).2
    have g47 : (h39.2.1 34 1).toInt = u21.toInt := by rw [← (show u21 = h39.2.1 34 1 from (show u21 = h39.2.1 34 1 from by rw [hv39e]; exact (g_iI rfl (show u21 = h34.2.1 34 1 from by rw [hv34e]; exact (g_iI rfl u21w.symm).symm).symm).symm))] <;> exact (ti_rfl u21)
    have g48 : (h39.2.1 34 2).toInt = u23.toInt := by rw [← (show u23 = h39.2.1 34 2 from (show u23 = h39.2.1 34 2 from by rw [hv39e]; exact (g_iI rfl (show u23 = h34.2.1 34 2 from by rw [hv34e]; exact (g_iI rfl u23w.symm).symm).symm).symm))] <;> exact (ti_rfl u23)
    have g49 : (h39.2.1 34 7).toInt = u25.toInt := by rw [← (show u25 = h39.2.1 34 7 from (show u25 = h39.2.1 34 7 from by rw [hv39e]; exact (g_iI rfl (show u25 = h34.2.1 34 7 from by rw [hv34e]; exact (g_iI rfl u25w.symm).symm).symm).symm))] <;> exact (ti_rfl u25)
    exact gi_iret (pc := 58) (ti_rfl v19) ⟨_, rfl, (by rw [show (v19 : Int32).toInt = v19.toInt from (ti_rfl v19)]; omega), (by rw [show (v19 : Int32).toInt = v19.toInt from (ti_rfl v19)]; omega), hv39, (by omega), (by omega), (by omega), (k40.symm.trans kf), fx39, pr39⟩ hv39 dX3_addItem_58
  ·
    have k50 := if_f k26 (Int.not_le.mpr q27)
    refine go_aload_n (pc := 13) rfl dX3_addItem_13 ?_
    refine go_iconst (pc := 14) (v := 4) (by decide) dX3_addItem_14 ?_
    refine go_aload_n (pc := 15) rfl dX3_addItem_15 ?_
    refine gi_get (pc := 16) (lo := 0) (hi := 500) hv13 fL_X3_19 rfl (Nat.le_of_ble_eq_true rfl) rfl rfl dX3_addItem_16 (fun v51 v51l v51u v51w => ?_)
    have v51r : u23 = h13.2.1 34 2 := u23w
    have v51q : TI v51 u23.toInt := by rw [v51w.trans v51r.symm]; exact (ti_rfl u23)
    have g52 : (0 : Int) ≤ (h13.2.1 34 1).toInt := (hv13.2.1 34 1).1
    have g53 : (h13.2.1 34 1).toInt ≤ 500 := (hv13.2.1 34 1).2
    have g54 : (0 : Int) ≤ (h13.2.1 34 2).toInt := (hv13.2.1 34 2).1
    have g55 : (h13.2.1 34 2).toInt ≤ 500 := (hv13.2.1 34 2).2
    have g56 : (0 : Int) ≤ (h13.2.1 34 7).toInt := (hv13.2.1 34 7).1
    have g57 : (h13.2.1 34 7).toInt ≤ 7 := (hv13.2.1 34 7).2
    have g58 : (h13.2.1 34 1).toInt = u21.toInt := by rw [← (show u21 = h13.2.1 34 1 from u21w)] <;> exact (ti_rfl u21)
    have g59 : (h13.2.1 34 2).toInt = u23.toInt := by rw [← (show u23 = h13.2.1 34 2 from u23w)] <;> exact (ti_rfl u23)
    have g60 : (h13.2.1 34 7).toInt = u25.toInt := by rw [← (show u25 = h13.2.1 34 7 from u25w)] <;> exact (ti_rfl u25)
    refine go_invV (pc := 19) (sl := 0) (s_X3_blame_f l (d + 0) hv13 4 (by rw [show (4 : Int32).toInt = 4 from (ti_c (v := 4) (a := 4) (by decide))]; omega) (by rw [show (4 : Int32).toInt = 4 from (ti_c (v := 4) (a := 4) (by decide))]; omega) v51 (by rw [show (v51 : Int32).toInt = u23.toInt from v51q]; omega) (by rw [show (v51 : Int32).toInt = u23.toInt from v51q]; omega)) mL_X3_101 iM_X3_blame sM_X3_blame (hv13.sh rfl) rfl rfl rfl (Nat.le_of_ble_eq_true rfl) (show d + 0 + 1 + 1 ≤ d + 2 by omega) (show 8 + (3 + 11) + 40 * (d + 0 + 1) ≤ 40 * (d + 2) by omega) (g_c0 hv13.ln) (Nat.le_of_ble_eq_true rfl) dX3_addItem_19 ?_
    intro r h61 hq _
    obtain ⟨rfl, hv61, f62, f63, f64, f65, f66, f67, pt61⟩ := hq
    have pr61 : PR h → PR h61 := fun z => pt61 (pr13 z)
    try rw [show (4 : Int32).toInt = 4 from (ti_c (v := 4) (a := 4) (by decide))] at f62
    try rw [show (v51 : Int32).toInt = u23.toInt from v51q] at f62
    try rw [show (4 : Int32).toInt = 4 from (ti_c (v := 4) (a := 4) (by decide))] at f63
    try rw [show (v51 : Int32).toInt = u23.toInt from v51q] at f63
    try rw [show (4 : Int32).toInt = 4 from (ti_c (v := 4) (a := 4) (by decide))] at f64
    try rw [show (v51 : Int32).toInt = u23.toInt from v51q] at f64
    try rw [show (4 : Int32).toInt = 4 from (ti_c (v := 4) (a := 4) (by decide))] at f65
    try rw [show (v51 : Int32).toInt = u23.toInt from v51q] at f65
    try rw [show (4 : Int32).toInt = 4 from (ti_c (v := 4) (a := 4) (by decide))] at f66
    try rw [show (v51 : Int32).toInt = u23.toInt from v51q] at f66
    try rw [show (4 : Int32).toInt = 4 from (ti_c (v := 4) (a := 4) (by decide))] at f67
    try rw [show (v51 : Int32).toInt = u23.toInt from v51q] at f67
    have fx61 : FX KC0 h h61 := FX.tr fx13 f67
    have k68 := bd_e k50 f66.symm
    obtain ⟨u69, u69w⟩ : ∃ v : Int32, v = h61.2.1 34 1 := ⟨_, rfl⟩
    have u69e : (h61.2.1 34 1).toInt = u69.toInt := by rw [u69w]
    have u69l : 0 ≤ u69.toInt := by rw [u69w]; exact (hv61.2.1 34 1).1
    have u69u : u69.toInt ≤ 500 := by rw [u69w]; exact (hv61.2.1 34 1).2
    have k70 := k68
    obtain ⟨u71, u71w⟩ : ∃ v : Int32, v = h61.2.1 34 2 := ⟨_, rfl⟩
    have u71e : (h61.2.1 34 2).toInt = u71.toInt := by rw [u71w]
    have u71l : 0 ≤ u71.toInt := by rw [u71w]; exact (hv61.2.1 34 2).1
    have u71u : u71.toInt ≤ 500 := by rw [u71w]; exact (hv61.2.1 34 2).2
    have k72 := k70
    obtain ⟨u73, u73w⟩ : ∃ v : Int32, v = h61.2.1 34 7 := ⟨_, rfl⟩
    have u73e : (h61.2.1 34 7).toInt = u73.toInt := by rw [u73w]
    have u73l : 0 ≤ u73.toInt := by rw [u73w]; exact (hv61.2.1 34 7).1
    have u73u : u73.toInt ≤ 7 := by rw [u73w]; exact (hv61.2.1 34 7).2
    have k74 := k72
    refine go_goto (pc := 22) (tgt := 57) (by decide) dX3_addItem_22 ?_
    refine go_iload_n (pc := 57) rfl dX3_addItem_57 ?_
    have g75 : (0 : Int) ≤ (h61.2.1 34 1).toInt := (hv61.2.1 34 1).1
    have g76 : (h61.2.1 34 1).toInt ≤ 500 := (hv61.2.1 34 1).2
    have g77 : (0 : Int) ≤ (h61.2.1 34 2).toInt := (hv61.2.1 34 2).1
    have g78 : (h61.2.1 34 2).toInt ≤ 500 := (hv61.2.1 34 2).2
    have g79 : (0 : Int) ≤ (h61.2.1 34 7).toInt := (hv61.2.1 34 7).1
    have g80 : (h61.2.1 34 7).toInt ≤ 7 := (hv61.2.1 34 7).2
    have g81 : (h61.2.1 34 1).toInt = u69.toInt := by rw [← (show u69 = h61.2.1 34 1 from u69w)] <;> exact (ti_rfl u69)
    have g82 : (h61.2.1 34 2).toInt = u71.toInt := by rw [← (show u71 = h61.2.1 34 2 from u71w)] <;> exact (ti_rfl u71)
    have g83 : (h61.2.1 34 7).toInt = u73.toInt := by rw [← (show u73 = h61.2.1 34 7 from u73w)] <;> exact (ti_rfl u73)
    exact gi_iret (pc := 58) (ti_rfl v19) ⟨_, rfl, (by rw [show (v19 : Int32).toInt = v19.toInt from (ti_rfl v19)]; omega), (by rw [show (v19 : Int32).toInt = v19.toInt from (ti_rfl v19)]; omega), hv61, (by omega), (by omega), (by omega), (k74.symm.trans kf), fx61, pr61⟩ hv61 dX3_addItem_58
def f_X3_openBlock (s : ST) (a2 : Int) (a3 : Int) : ST :=
  bd2 (f_X3_look s) fun s5 v11 => bd (s5.1 34 2) fun u13 => bd (s5.1 34 7) fun u15 => if v11 = 123 then (if u15 ≤ 6 then (bd (sI s5 34 2 ((u13 + 1))) fun s25 => bd (sI s25 45 (u15).toNat a2) fun s28 => bd (sI s28 46 (u15).toNat (-1)) fun s31 => bd (sI s31 47 (u15).toNat a3) fun s34 => bd (sI s34 34 7 ((u15 + 1))) fun s39 => s39) else (bd (f_X3_blame s5 4 u13) fun s49 => s49)) else (bd (f_X3_blame s5 1 u13) fun s69 => s69)
set_option maxHeartbeats 4000000 in
set_option maxRecDepth 100000 in
theorem s_X3_openBlock_f (l : Launch) (d : Nat) {P : PP} {h : HP} (hv : Iv P h) (a2 : Int32) (a2l : -1 ≤ a2.toInt) (a2u : a2.toInt ≤ 127) (a3 : Int32) (a3l : 0 ≤ a3.toInt) (a3u : a3.toInt ≤ 1) : Mt l yX3_openBlock cX3_openBlock 3 none (d + 2) [.ref 34, .int a2, .int a3] h 0 0 (fun r h' => r = none ∧ Iv P h' ∧ (st h' = f_X3_openBlock (st h) a2.toInt a3.toInt) ∧ (FX KC0 h h') ∧ (PR h → PR h')) := by
  refine Mt_iv hv (by decide) (Nat.le_of_ble_eq_true rfl) ?_
  show Go l RX3 cX3_openBlock 3 (g_rm (d + 2) 0 0) "openBlock" none 117 0 0 (fun _ _ => True) (fun r h' => r = none ∧ Iv P h' ∧ (st h' = f_X3_openBlock (st h) a2.toInt a3.toInt) ∧ (FX KC0 h h') ∧ (PR h → PR h')) 0 0 [(0, .ref 34), (1, .int a2), (2, .int a3)] [] h
  have pr : PR h → PR h := id
  have fx : FX KC0 h h := FX.rfl
  obtain ⟨fin, kf⟩ : ∃ z, z = f_X3_openBlock (st h) a2.toInt a3.toInt := ⟨_, _root_.rfl⟩
  have k0 := kf
  unfold f_X3_openBlock at k0
  refine go_aload_n (pc := 0) rfl dX3_openBlock_0 ?_
  have g1 : (0 : Int) ≤ (h.2.1 34 2).toInt := (hv.2.1 34 2).1
  have g2 : (h.2.1 34 2).toInt ≤ 500 := (hv.2.1 34 2).2
  have g3 : (0 : Int) ≤ (h.2.1 34 7).toInt := (hv.2.1 34 7).1
  have g4 : (h.2.1 34 7).toInt ≤ 7 := (hv.2.1 34 7).2
  refine go_invV (pc := 1) (sl := 0) (s_X3_look_f l (d + 0) hv ) mL_X3_66 iM_X3_look sM_X3_look (hv.sh rfl) rfl rfl rfl (Nat.le_of_ble_eq_true rfl) (show d + 0 + 1 + 1 ≤ d + 2 by omega) (show 8 + (1 + 11) + 40 * (d + 0 + 1) ≤ 40 * (d + 2) by omega) (g_c0 hv.ln) (Nat.le_of_ble_eq_true rfl) dX3_openBlock_1 ?_
  intro r h5 hq _
  obtain ⟨v11, rfl, v11l, v11u, hv5, f6, f7, f8, f9, f10, pt5⟩ := hq
  have pr5 : PR h → PR h5 := fun z => pt5 (pr z)
  have fx5 : FX KC0 h h5 := FX.tr fx f10
  have k12 := bd2_e k0 f9
  obtain ⟨u13, u13w⟩ : ∃ v : Int32, v = h5.2.1 34 2 := ⟨_, rfl⟩
  have u13e : (h5.2.1 34 2).toInt = u13.toInt := by rw [u13w]
  have u13l : 0 ≤ u13.toInt := by rw [u13w]; exact (hv5.2.1 34 2).1
  have u13u : u13.toInt ≤ 500 := by rw [u13w]; exact (hv5.2.1 34 2).2
  have k14 := bd_e k12 (congrArg Int32.toInt u13w.symm)
  obtain ⟨u15, u15w⟩ : ∃ v : Int32, v = h5.2.1 34 7 := ⟨_, rfl⟩
  have u15e : (h5.2.1 34 7).toInt = u15.toInt := by rw [u15w]
  have u15l : 0 ≤ u15.toInt := by rw [u15w]; exact (hv5.2.1 34 7).1
  have u15u : u15.toInt ≤ 7 := by rw [u15w]; exact (hv5.2.1 34 7).2
  have k16 := bd_e k14 (congrArg Int32.toInt u15w.symm)
  refine go_bipush (pc := 4) (v := 123) (by decide) dX3_openBlock_4 ?_
  refine gf_icmp_eq (pc := 6) (tgt := 21) (ti_rfl v11) (ti_c (v := 123) (a := 123) (by decide)) (by decide) dX3_openBlock_6 (fun q17 => ?_) (fun q17 => ?_)
  ·
    have k18 := if_t k16 q17
    refine go_aload_n (pc := 21) rfl dX3_openBlock_21 ?_
    refine gi_get (pc := 22) (lo := 0) (hi := 7) hv5 fL_X3_32 rfl (Nat.le_of_ble_eq_true rfl) rfl rfl dX3_openBlock_22 (fun v19 v19l v19u v19w => ?_)
    have v19r : u15 = h5.2.1 34 7 := u15w
    have v19q : TI v19 u15.toInt := by rw [v19w.trans v19r.symm]; exact (ti_rfl u15)
    refine go_bipush (pc := 25) (v := 6) (by decide) dX3_openBlock_25 ?_
    refine gf_icmp_le (pc := 27) (tgt := 42) v19q (ti_c (v := 6) (a := 6) (by decide)) (by decide) dX3_openBlock_27 (fun q20 => ?_) (fun q20 => ?_)
    ·
      have k21 := if_t k18 q20
      refine go_aload_n (pc := 42) rfl dX3_openBlock_42 ?_
      refine go_dup (pc := 43) rfl dX3_openBlock_43 ?_
      refine gi_get (pc := 44) (lo := 0) (hi := 500) hv5 fL_X3_19 rfl (Nat.le_of_ble_eq_true rfl) rfl rfl dX3_openBlock_44 (fun v22 v22l v22u v22w => ?_)
      have v22r : u13 = h5.2.1 34 2 := u13w
      have v22q : TI v22 u13.toInt := by rw [v22w.trans v22r.symm]; exact (ti_rfl u13)
      refine go_iconst (pc := 47) (v := 1) (by decide) dX3_openBlock_47 ?_
      refine gf_iadd (pc := 48) v22q (ti_c (v := 1) (a := 1) (by decide)) (by omega) (by omega) dX3_openBlock_48 (fun v23 e24 => ?_)
      refine gi_put (pc := 49) (lo := 0) (hi := 500) hv5 e24 (fP_X3_19 _) rfl (Nat.le_of_ble_eq_true rfl) rfl rfl (by omega) (by omega) rfl rfl (by decide) (by decide) (by decide) (by decide) dX3_openBlock_49 (fun h25 hv25 hv25e => ?_)
      have pr25 : PR h → PR h25 := fun z => by rw [hv25e]; exact PR.put hv5 (pr5 z) (by omega)
      have fx25 : FX KC0 h h25 := FX.pI fx5 hv25e (by unfold KC0; omega)
      have k26 := bd_e k21 (st_I hv25e e24)
      refine go_aload_n (pc := 52) rfl dX3_openBlock_52 ?_
      refine gi_getF (pc := 53) (q := 45) hv25 fL_X3_35 rfl (Nat.le_of_ble_eq_true rfl) rfl (hv25.rf (by decide)) dX3_openBlock_53 ?_
      refine go_aload_n (pc := 56) rfl dX3_openBlock_56 ?_
      refine gi_get (pc := 57) (lo := 0) (hi := 7) hv25 fL_X3_32 rfl (Nat.le_of_ble_eq_true rfl) rfl rfl dX3_openBlock_57 (fun v27 v27l v27u v27w => ?_)
      have v27r : u15 = h25.2.1 34 7 := (show u15 = h25.2.1 34 7 from by rw [hv25e]; exact (g_iI rfl u15w.symm).symm)
      have v27q : TI v27 u15.toInt := by rw [v27w.trans v27r.symm]; exact (ti_rfl u15)
      refine go_iload_n (pc := 60) rfl dX3_openBlock_60 ?_
      refine gi_iast (pc := 61) (lo := -1) (hi := 127) (len := 7) hv25 v27q (ti_rfl a2) rfl (by omega) (by omega) (fun _ => rfl) (by omega) (by omega) (by decide) dX3_openBlock_61 (fun h28 hv28 hv28e => ?_)
      have pr28 : PR h → PR h28 := fun z => by rw [hv28e]; exact PR.put hv25 (pr25 z) (by omega)
      have fx28 : FX KC0 h h28 := FX.pI fx25 hv28e (by unfold KC0; omega)
      have k29 := bd_e k26 (st_I hv28e (ti_rfl a2))
      refine go_aload_n (pc := 62) rfl dX3_openBlock_62 ?_
      refine gi_getF (pc := 63) (q := 46) hv28 fL_X3_39 rfl (Nat.le_of_ble_eq_true rfl) rfl (hv28.rf (by decide)) dX3_openBlock_63 ?_
      refine go_aload_n (pc := 66) rfl dX3_openBlock_66 ?_
      refine gi_get (pc := 67) (lo := 0) (hi := 7) hv28 fL_X3_32 rfl (Nat.le_of_ble_eq_true rfl) rfl rfl dX3_openBlock_67 (fun v30 v30l v30u v30w => ?_)
      have v30r : u15 = h28.2.1 34 7 := (show u15 = h28.2.1 34 7 from by rw [hv28e]; exact (g_iI rfl (show u15 = h25.2.1 34 7 from by rw [hv25e]; exact (g_iI rfl u15w.symm).symm).symm).symm)
      have v30q : TI v30 u15.toInt := by rw [v30w.trans v30r.symm]; exact (ti_rfl u15)
      refine go_iconst (pc := 70) (v := (-1)) (by decide) dX3_openBlock_70 ?_
      refine gi_iast (pc := 71) (lo := -1) (hi := 127) (len := 7) hv28 v30q (ti_c (v := (-1)) (a := (-1)) (by decide)) rfl (by omega) (by omega) (fun _ => rfl) (by omega) (by omega) (by decide) dX3_openBlock_71 (fun h31 hv31 hv31e => ?_)
      have pr31 : PR h → PR h31 := fun z => by rw [hv31e]; exact PR.put hv28 (pr28 z) (by omega)
      have fx31 : FX KC0 h h31 := FX.pI fx28 hv31e (by unfold KC0; omega)
      have k32 := bd_e k29 (st_I hv31e (ti_c (v := (-1)) (a := (-1)) (by decide)))
      refine go_aload_n (pc := 72) rfl dX3_openBlock_72 ?_
      refine gi_getF (pc := 73) (q := 47) hv31 fL_X3_42 rfl (Nat.le_of_ble_eq_true rfl) rfl (hv31.rf (by decide)) dX3_openBlock_73 ?_
      refine go_aload_n (pc := 76) rfl dX3_openBlock_76 ?_
      refine gi_get (pc := 77) (lo := 0) (hi := 7) hv31 fL_X3_32 rfl (Nat.le_of_ble_eq_true rfl) rfl rfl dX3_openBlock_77 (fun v33 v33l v33u v33w => ?_)
      have v33r : u15 = h31.2.1 34 7 := (show u15 = h31.2.1 34 7 from by rw [hv31e]; exact (g_iI rfl (show u15 = h28.2.1 34 7 from by rw [hv28e]; exact (g_iI rfl (show u15 = h25.2.1 34 7 from by rw [hv25e]; exact (g_iI rfl u15w.symm).symm).symm).symm).symm).symm)
      have v33q : TI v33 u15.toInt := by rw [v33w.trans v33r.symm]; exact (ti_rfl u15)
      refine go_iload_n (pc := 80) rfl dX3_openBlock_80 ?_
      refine gi_zast (pc := 81) (len := 7) hv31 v33q (ti_rfl a3) rfl (by omega) (by omega) (fun _ => rfl) (by omega) (by omega) (by decide) dX3_openBlock_81 (fun h34 hv34 hv34e => ?_)
      have pr34 : PR h → PR h34 := fun z => by rw [hv34e]; exact PR.put hv31 (pr31 z) (by omega)
      have fx34 : FX KC0 h h34 := FX.pI fx31 hv34e (by unfold KC0; omega)
      have k35 := bd_e k32 (st_I hv34e (ti_rfl a3))
      refine go_aload_n (pc := 82) rfl dX3_openBlock_82 ?_
      refine go_dup (pc := 83) rfl dX3_openBlock_83 ?_
      refine gi_get (pc := 84) (lo := 0) (hi := 7) hv34 fL_X3_32 rfl (Nat.le_of_ble_eq_true rfl) rfl rfl dX3_openBlock_84 (fun v36 v36l v36u v36w => ?_)
      have v36r : u15 = h34.2.1 34 7 := (show u15 = h34.2.1 34 7 from by rw [hv34e]; exact (g_iI rfl (show u15 = h31.2.1 34 7 from by rw [hv31e]; exact (g_iI rfl (show u15 = h28.2.1 34 7 from by rw [hv28e]; exact (g_iI rfl (show u15 = h25.2.1 34 7 from by rw [hv25e]; exact (g_iI rfl u15w.symm).symm).symm).symm).symm).symm).symm).symm)
      have v36q : TI v36 u15.toInt := by rw [v36w.trans v36r.symm]; exact (ti_rfl u15)
      refine go_iconst (pc := 87) (v := 1) (by decide) dX3_openBlock_87 ?_
      refine gf_iadd (pc := 88) v36q (ti_c (v := 1) (a := 1) (by decide)) (by omega) (by omega) dX3_openBlock_88 (fun v37 e38 => ?_)
      refine gi_put (pc := 89) (lo := 0) (hi := 7) hv34 e38 (fP_X3_32 _) rfl (Nat.le_of_ble_eq_true rfl) rfl rfl (by omega) (by omega) rfl rfl (by decide) (by decide) (by decide) (by decide) dX3_openBlock_89 (fun h39 hv39 hv39e => ?_)
      have pr39 : PR h → PR h39 := fun z => by rw [hv39e]; exact PR.put hv34 (pr34 z) (by omega)
      have fx39 : FX KC0 h h39 := FX.pI fx34 hv39e (by unfold KC0; omega)
      have k40 := bd_e k35 (st_I hv39e e38)
      exact gi_vret (pc := 92) ⟨rfl, hv39, (k40.symm.trans kf), fx39, pr39⟩ hv39 dX3_openBlock_92
    ·
      have k41 := if_f k18 (Int.not_le.mpr q20)
      refine go_aload_n (pc := 30) rfl dX3_openBlock_30 ?_
      refine go_iconst (pc := 31) (v := 4) (by decide) dX3_openBlock_31 ?_
      refine go_aload_n (pc := 32) rfl dX3_openBlock_32 ?_
      refine gi_get (pc := 33) (lo := 0) (hi := 500) hv5 fL_X3_19 rfl (Nat.le_of_ble_eq_true rfl) rfl rfl dX3_openBlock_33 (fun v42 v42l v42u v42w => ?_)
      have v42r : u13 = h5.2.1 34 2 := u13w
      have v42q : TI v42 u13.toInt := by rw [v42w.trans v42r.symm]; exact (ti_rfl u13)
      have g43 : (0 : Int) ≤ (h5.2.1 34 2).toInt := (hv5.2.1 34 2).1
      have g44 : (h5.2.1 34 2).toInt ≤ 500 := (hv5.2.1 34 2).2
      have g45 : (0 : Int) ≤ (h5.2.1 34 7).toInt := (hv5.2.1 34 7).1
      have g46 : (h5.2.1 34 7).toInt ≤ 7 := (hv5.2.1 34 7).2
      have g47 : (h5.2.1 34 2).toInt = u13.toInt := by rw [← (show u13 = h5.2.1 34 2 from u13w)] <;> exact (ti_rfl u13)
      have g48 : (h5.2.1 34 7).toInt = u15.toInt := by rw [← (show u15 = h5.2.1 34 7 from u15w)] <;> exact (ti_rfl u15)
      refine go_invV (pc := 36) (sl := 0) (s_X3_blame_f l (d + 0) hv5 4 (by rw [show (4 : Int32).toInt = 4 from (ti_c (v := 4) (a := 4) (by decide))]; omega) (by rw [show (4 : Int32).toInt = 4 from (ti_c (v := 4) (a := 4) (by decide))]; omega) v42 (by rw [show (v42 : Int32).toInt = u13.toInt from v42q]; omega) (by rw [show (v42 : Int32).toInt = u13.toInt from v42q]; omega)) mL_X3_101 iM_X3_blame sM_X3_blame (hv5.sh rfl) rfl rfl rfl (Nat.le_of_ble_eq_true rfl) (show d + 0 + 1 + 1 ≤ d + 2 by omega) (show 8 + (3 + 11) + 40 * (d + 0 + 1) ≤ 40 * (d + 2) by omega) (g_c0 hv5.ln) (Nat.le_of_ble_eq_true rfl) dX3_openBlock_36 ?_
      intro r h49 hq _
      obtain ⟨rfl, hv49, f50, f51, f52, f53, f54, f55, pt49⟩ := hq
      have pr49 : PR h → PR h49 := fun z => pt49 (pr5 z)
      try rw [show (4 : Int32).toInt = 4 from (ti_c (v := 4) (a := 4) (by decide))] at f50
      try rw [show (v42 : Int32).toInt = u13.toInt from v42q] at f50
      try rw [show (4 : Int32).toInt = 4 from (ti_c (v := 4) (a := 4) (by decide))] at f51
      try rw [show (v42 : Int32).toInt = u13.toInt from v42q] at f51
      try rw [show (4 : Int32).toInt = 4 from (ti_c (v := 4) (a := 4) (by decide))] at f52
      try rw [show (v42 : Int32).toInt = u13.toInt from v42q] at f52
      try rw [show (4 : Int32).toInt = 4 from (ti_c (v := 4) (a := 4) (by decide))] at f53
      try rw [show (v42 : Int32).toInt = u13.toInt from v42q] at f53
      try rw [show (4 : Int32).toInt = 4 from (ti_c (v := 4) (a := 4) (by decide))] at f54
      try rw [show (v42 : Int32).toInt = u13.toInt from v42q] at f54
      try rw [show (4 : Int32).toInt = 4 from (ti_c (v := 4) (a := 4) (by decide))] at f55
      try rw [show (v42 : Int32).toInt = u13.toInt from v42q] at f55
      have fx49 : FX KC0 h h49 := FX.tr fx5 f55
      have k56 := bd_e k41 f54.symm
      obtain ⟨u57, u57w⟩ : ∃ v : Int32, v = h49.2.1 34 2 := ⟨_, rfl⟩
      have u57e : (h49.2.1 34 2).toInt = u57.toInt := by rw [u57w]
      have u57l : 0 ≤ u57.toInt := by rw [u57w]; exact (hv49.2.1 34 2).1
      have u57u : u57.toInt ≤ 500 := by rw [u57w]; exact (hv49.2.1 34 2).2
      have k58 := k56
      obtain ⟨u59, u59w⟩ : ∃ v : Int32, v = h49.2.1 34 7 := ⟨_, rfl⟩
      have u59e : (h49.2.1 34 7).toInt = u59.toInt := by rw [u59w]
      have u59l : 0 ≤ u59.toInt := by rw [u59w]; exact (hv49.2.1 34 7).1
      have u59u : u59.toInt ≤ 7 := by rw [u59w]; exact (hv49.2.1 34 7).2
      have k60 := k58
      refine go_goto (pc := 39) (tgt := 92) (by decide) dX3_openBlock_39 ?_
      exact gi_vret (pc := 92) ⟨rfl, hv49, (k60.symm.trans kf), fx49, pr49⟩ hv49 dX3_openBlock_92
  ·
    have k61 := if_f k16 q17
    refine go_aload_n (pc := 9) rfl dX3_openBlock_9 ?_
    refine go_iconst (pc := 10) (v := 1) (by decide) dX3_openBlock_10 ?_
    refine go_aload_n (pc := 11) rfl dX3_openBlock_11 ?_
    refine gi_get (pc := 12) (lo := 0) (hi := 500) hv5 fL_X3_19 rfl (Nat.le_of_ble_eq_true rfl) rfl rfl dX3_openBlock_12 (fun v62 v62l v62u v62w => ?_)
    have v62r : u13 = h5.2.1 34 2 := u13w
    have v62q : TI v62 u13.toInt := by rw [v62w.trans v62r.symm]; exact (ti_rfl u13)
    have g63 : (0 : Int) ≤ (h5.2.1 34 2).toInt := (hv5.2.1 34 2).1
    have g64 : (h5.2.1 34 2).toInt ≤ 500 := (hv5.2.1 34 2).2
    have g65 : (0 : Int) ≤ (h5.2.1 34 7).toInt := (hv5.2.1 34 7).1
    have g66 : (h5.2.1 34 7).toInt ≤ 7 := (hv5.2.1 34 7).2
    have g67 : (h5.2.1 34 2).toInt = u13.toInt := by rw [← (show u13 = h5.2.1 34 2 from u13w)] <;> exact (ti_rfl u13)
    have g68 : (h5.2.1 34 7).toInt = u15.toInt := by rw [← (show u15 = h5.2.1 34 7 from u15w)] <;> exact (ti_rfl u15)
    refine go_invV (pc := 15) (sl := 0) (s_X3_blame_f l (d + 0) hv5 1 (by rw [show (1 : Int32).toInt = 1 from (ti_c (v := 1) (a := 1) (by decide))]; omega) (by rw [show (1 : Int32).toInt = 1 from (ti_c (v := 1) (a := 1) (by decide))]; omega) v62 (by rw [show (v62 : Int32).toInt = u13.toInt from v62q]; omega) (by rw [show (v62 : Int32).toInt = u13.toInt from v62q]; omega)) mL_X3_101 iM_X3_blame sM_X3_blame (hv5.sh rfl) rfl rfl rfl (Nat.le_of_ble_eq_true rfl) (show d + 0 + 1 + 1 ≤ d + 2 by omega) (show 8 + (3 + 11) + 40 * (d + 0 + 1) ≤ 40 * (d + 2) by omega) (g_c0 hv5.ln) (Nat.le_of_ble_eq_true rfl) dX3_openBlock_15 ?_
    intro r h69 hq _
    obtain ⟨rfl, hv69, f70, f71, f72, f73, f74, f75, pt69⟩ := hq
    have pr69 : PR h → PR h69 := fun z => pt69 (pr5 z)
    try rw [show (1 : Int32).toInt = 1 from (ti_c (v := 1) (a := 1) (by decide))] at f70
    try rw [show (v62 : Int32).toInt = u13.toInt from v62q] at f70
    try rw [show (1 : Int32).toInt = 1 from (ti_c (v := 1) (a := 1) (by decide))] at f71
    try rw [show (v62 : Int32).toInt = u13.toInt from v62q] at f71
    try rw [show (1 : Int32).toInt = 1 from (ti_c (v := 1) (a := 1) (by decide))] at f72
    try rw [show (v62 : Int32).toInt = u13.toInt from v62q] at f72
    try rw [show (1 : Int32).toInt = 1 from (ti_c (v := 1) (a := 1) (by decide))] at f73
    try rw [show (v62 : Int32).toInt = u13.toInt from v62q] at f73
    try rw [show (1 : Int32).toInt = 1 from (ti_c (v := 1) (a := 1) (by decide))] at f74
    try rw [show (v62 : Int32).toInt = u13.toInt from v62q] at f74
    try rw [show (1 : Int32).toInt = 1 from (ti_c (v := 1) (a := 1) (by decide))] at f75
    try rw [show (v62 : Int32).toInt = u13.toInt from v62q] at f75
    have fx69 : FX KC0 h h69 := FX.tr fx5 f75
    have k76 := bd_e k61 f74.symm
    obtain ⟨u77, u77w⟩ : ∃ v : Int32, v = h69.2.1 34 2 := ⟨_, rfl⟩
    have u77e : (h69.2.1 34 2).toInt = u77.toInt := by rw [u77w]
    have u77l : 0 ≤ u77.toInt := by rw [u77w]; exact (hv69.2.1 34 2).1
    have u77u : u77.toInt ≤ 500 := by rw [u77w]; exact (hv69.2.1 34 2).2
    have k78 := k76
    obtain ⟨u79, u79w⟩ : ∃ v : Int32, v = h69.2.1 34 7 := ⟨_, rfl⟩
    have u79e : (h69.2.1 34 7).toInt = u79.toInt := by rw [u79w]
    have u79l : 0 ≤ u79.toInt := by rw [u79w]; exact (hv69.2.1 34 7).1
    have u79u : u79.toInt ≤ 7 := by rw [u79w]; exact (hv69.2.1 34 7).2
    have k80 := k78
    refine go_goto (pc := 18) (tgt := 92) (by decide) dX3_openBlock_18 ?_
    exact gi_vret (pc := 92) ⟨rfl, hv69, (k80.symm.trans kf), fx69, pr69⟩ hv69 dX3_openBlock_92
def f_X3_readNumbers (s : ST) (a2 : Int) : ST :=
  bd (s.2.2 34 4) fun c3 => bd2 (f_X3_readOperand s) fun s13 v18 => bd (sI s13 (c3 + 9) (a2).toNat v18) fun s26 => bd2 (f_X3_look s26) fun s37 v43 => bd (s37.1 34 2) fun u47 => if v43 = 43 then (bd (sI s37 34 2 ((u47 + 1))) fun s56 => bd (s56.2.2 34 4) fun c58 => bd (sI s56 (c58 + 8) (a2).toNat v43) fun s60 => bd (s60.2.2 34 4) fun c62 => bd2 (f_X3_readOperand s60) fun s73 v78 => bd (sI s73 (c62 + 10) (a2).toNat v78) fun s86 => s86) else (if v43 = 45 then (bd (sI s37 34 2 ((u47 + 1))) fun s103 => bd (s103.2.2 34 4) fun c105 => bd (sI s103 (c105 + 8) (a2).toNat v43) fun s107 => bd (s107.2.2 34 4) fun c109 => bd2 (f_X3_readOperand s107) fun s120 v125 => bd (sI s120 (c109 + 10) (a2).toNat v125) fun s133 => s133) else (if v43 = 42 then (bd (sI s37 34 2 ((u47 + 1))) fun s150 => bd (s150.2.2 34 4) fun c152 => bd (sI s150 (c152 + 8) (a2).toNat v43) fun s154 => bd (s154.2.2 34 4) fun c156 => bd2 (f_X3_readOperand s154) fun s167 v172 => bd (sI s167 (c156 + 10) (a2).toNat v172) fun s180 => s180) else (if ¬ v43 = 60 then (s37) else (bd (sI s37 34 2 ((u47 + 1))) fun s207 => bd (s207.2.2 34 4) fun c209 => bd (sI s207 (c209 + 8) (a2).toNat v43) fun s211 => bd (s211.2.2 34 4) fun c213 => bd2 (f_X3_readOperand s211) fun s224 v229 => bd (sI s224 (c213 + 10) (a2).toNat v229) fun s237 => s237))))
set_option maxHeartbeats 4000000 in
set_option maxRecDepth 100000 in
theorem s_X3_readNumbers_f (l : Launch) (d : Nat) {P : PP} {h : HP} (hv : Iv P h) (a2 : Int32) (a2l : 0 ≤ a2.toInt) (a2u : a2.toInt ≤ 39) : Mt l yX3_readNumbers cX3_readNumbers 3 none (d + 4) [.ref 34, .int a2] h 0 0 (fun r h' => r = none ∧ Iv P h' ∧ ((h'.2.1 34 1).toInt = (h.2.1 34 1).toInt) ∧ ((h'.2.1 34 7).toInt = (h.2.1 34 7).toInt) ∧ (st h' = f_X3_readNumbers (st h) a2.toInt) ∧ (FX KC0 h h') ∧ (PR h → PR h')) := by
  refine Mt_iv hv (by decide) (Nat.le_of_ble_eq_true rfl) ?_
  show Go l RX3 cX3_readNumbers 3 (g_rm (d + 4) 0 0) "readNumbers" none 117 0 0 (fun _ _ => True) (fun r h' => r = none ∧ Iv P h' ∧ ((h'.2.1 34 1).toInt = (h.2.1 34 1).toInt) ∧ ((h'.2.1 34 7).toInt = (h.2.1 34 7).toInt) ∧ (st h' = f_X3_readNumbers (st h) a2.toInt) ∧ (FX KC0 h h') ∧ (PR h → PR h')) 0 0 [(0, .ref 34), (1, .int a2)] [] h
  have pr : PR h → PR h := id
  have fx : FX KC0 h h := FX.rfl
  obtain ⟨fin, kf⟩ : ∃ z, z = f_X3_readNumbers (st h) a2.toInt := ⟨_, _root_.rfl⟩
  have k0 := kf
  unfold f_X3_readNumbers at k0
  obtain ⟨u34_1, u34_1w⟩ : ∃ v : Int32, v = h.2.1 34 1 := ⟨_, rfl⟩
  have u34_1e : (h.2.1 34 1).toInt = u34_1.toInt := by rw [u34_1w]
  have u34_1l : 0 ≤ u34_1.toInt := by rw [u34_1w]; exact (hv.2.1 34 1).1
  have u34_1u : u34_1.toInt ≤ 500 := by rw [u34_1w]; exact (hv.2.1 34 1).2
  obtain ⟨u34_7, u34_7w⟩ : ∃ v : Int32, v = h.2.1 34 7 := ⟨_, rfl⟩
  have u34_7e : (h.2.1 34 7).toInt = u34_7.toInt := by rw [u34_7w]
  have u34_7l : 0 ≤ u34_7.toInt := by rw [u34_7w]; exact (hv.2.1 34 7).1
  have u34_7u : u34_7.toInt ≤ 7 := by rw [u34_7w]; exact (hv.2.1 34 7).2
  have k1 := k0
  have k2 := k1
  refine go_aload_n (pc := 0) rfl dX3_readNumbers_0 ?_
  refine gi_getC (pc := 1) hv fL_X3_46 rfl (Nat.le_of_ble_eq_true rfl) rfl (by decide) dX3_readNumbers_1 (fun c3 hc3 fc3 => ?_)
  have k4 := bd_e k2 (st_c fc3)
  refine gi_getF (pc := 4) (q := c3 + 9) hv fL_X3_175 (by rcases hc3 with rfl | rfl <;> rfl) (Nat.le_of_ble_eq_true rfl) rfl (by rcases hc3 with rfl | rfl <;> exact hv.rf (by decide)) dX3_readNumbers_4 ?_
  refine go_iload_n (pc := 7) rfl dX3_readNumbers_7 ?_
  refine go_aload_n (pc := 8) rfl dX3_readNumbers_8 ?_
  have g5 : (0 : Int) ≤ (h.2.1 34 1).toInt := (hv.2.1 34 1).1
  have g6 : (h.2.1 34 1).toInt ≤ 500 := (hv.2.1 34 1).2
  have g7 : (0 : Int) ≤ (h.2.1 34 2).toInt := (hv.2.1 34 2).1
  have g8 : (h.2.1 34 2).toInt ≤ 500 := (hv.2.1 34 2).2
  have g9 : (0 : Int) ≤ (h.2.1 34 7).toInt := (hv.2.1 34 7).1
  have g10 : (h.2.1 34 7).toInt ≤ 7 := (hv.2.1 34 7).2
  have g11 : (h.2.1 34 1).toInt = u34_1.toInt := by rw [← (show u34_1 = h.2.1 34 1 from u34_1w)] <;> exact (ti_rfl u34_1)
  have g12 : (h.2.1 34 7).toInt = u34_7.toInt := by rw [← (show u34_7 = h.2.1 34 7 from u34_7w)] <;> exact (ti_rfl u34_7)
  refine go_invV (pc := 9) (sl := 0) (s_X3_readOperand_f l (d + 0) hv ) mL_X3_178 iM_X3_readOperand sM_X3_readOperand (hv.sh rfl) rfl rfl rfl (Nat.le_of_ble_eq_true rfl) (show d + 0 + 3 + 1 ≤ d + 4 by omega) (show 8 + (3 + 11) + 40 * (d + 0 + 3) ≤ 40 * (d + 4) by omega) (g_c0 hv.ln) (Nat.le_of_ble_eq_true rfl) dX3_readNumbers_9 ?_
  intro r h13 hq _
  obtain ⟨v18, rfl, v18l, v18u, hv13, f14, f15, f16, f17, pt13⟩ := hq
  have pr13 : PR h → PR h13 := fun z => pt13 (pr z)
  have fx13 : FX KC0 h h13 := FX.tr fx f17
  have k19 := bd2_e k4 f16
  obtain ⟨u20, u20w⟩ : ∃ v : Int32, v = h13.2.1 34 1 := ⟨_, rfl⟩
  have u20e : (h13.2.1 34 1).toInt = u20.toInt := by rw [u20w]
  have u20l : 0 ≤ u20.toInt := by rw [u20w]; exact (hv13.2.1 34 1).1
  have u20u : u20.toInt ≤ 500 := by rw [u20w]; exact (hv13.2.1 34 1).2
  have k21 := k19
  obtain ⟨u22, u22w⟩ : ∃ v : Int32, v = h13.2.1 34 2 := ⟨_, rfl⟩
  have u22e : (h13.2.1 34 2).toInt = u22.toInt := by rw [u22w]
  have u22l : 0 ≤ u22.toInt := by rw [u22w]; exact (hv13.2.1 34 2).1
  have u22u : u22.toInt ≤ 500 := by rw [u22w]; exact (hv13.2.1 34 2).2
  have k23 := k21
  obtain ⟨u24, u24w⟩ : ∃ v : Int32, v = h13.2.1 34 7 := ⟨_, rfl⟩
  have u24e : (h13.2.1 34 7).toInt = u24.toInt := by rw [u24w]
  have u24l : 0 ≤ u24.toInt := by rw [u24w]; exact (hv13.2.1 34 7).1
  have u24u : u24.toInt ≤ 7 := by rw [u24w]; exact (hv13.2.1 34 7).2
  have k25 := k23
  refine gi_iast (pc := 12) (lo := -2147483648) (hi := 2147483647) (len := 40) hv13 (ti_rfl a2) (ti_rfl v18) (by rcases hc3 with rfl | rfl <;> rfl) (by omega) (by omega) (fun _ => by rcases hc3 with rfl | rfl <;> rfl) (ti_ge (ti_rfl v18)) (ti_le2 (ti_rfl v18)) (by rcases hc3 with rfl | rfl <;> decide) dX3_readNumbers_12 (fun h26 hv26 hv26e => ?_)
  have pr26 : PR h → PR h26 := fun z => by rw [hv26e]; exact PR.put hv13 (pr13 z) (by omega)
  have fx26 : FX KC0 h h26 := FX.pI fx13 hv26e (by unfold KC0; omega)
  have k27 := bd_e k25 (st_I hv26e (ti_rfl v18))
  refine go_aload_n (pc := 13) rfl dX3_readNumbers_13 ?_
  have g28 : (0 : Int) ≤ (h26.2.1 34 1).toInt := (hv26.2.1 34 1).1
  have g29 : (h26.2.1 34 1).toInt ≤ 500 := (hv26.2.1 34 1).2
  have g30 : (0 : Int) ≤ (h26.2.1 34 2).toInt := (hv26.2.1 34 2).1
  have g31 : (h26.2.1 34 2).toInt ≤ 500 := (hv26.2.1 34 2).2
  have g32 : (0 : Int) ≤ (h26.2.1 34 7).toInt := (hv26.2.1 34 7).1
  have g33 : (h26.2.1 34 7).toInt ≤ 7 := (hv26.2.1 34 7).2
  have g34 : (h26.2.1 34 1).toInt = u20.toInt := by rw [← (show u20 = h26.2.1 34 1 from (show u20 = h26.2.1 34 1 from by rw [hv26e]; exact (g_iIc (by omega) (by decide) u20w.symm).symm))] <;> exact (ti_rfl u20)
  have g35 : (h26.2.1 34 2).toInt = u22.toInt := by rw [← (show u22 = h26.2.1 34 2 from (show u22 = h26.2.1 34 2 from by rw [hv26e]; exact (g_iIc (by omega) (by decide) u22w.symm).symm))] <;> exact (ti_rfl u22)
  have g36 : (h26.2.1 34 7).toInt = u24.toInt := by rw [← (show u24 = h26.2.1 34 7 from (show u24 = h26.2.1 34 7 from by rw [hv26e]; exact (g_iIc (by omega) (by decide) u24w.symm).symm))] <;> exact (ti_rfl u24)
  refine go_invV (pc := 14) (sl := 0) (s_X3_look_f l (d + 2) hv26 ) mL_X3_66 iM_X3_look sM_X3_look (hv26.sh rfl) rfl rfl rfl (Nat.le_of_ble_eq_true rfl) (show d + 2 + 1 + 1 ≤ d + 4 by omega) (show 8 + (1 + 11) + 40 * (d + 2 + 1) ≤ 40 * (d + 4) by omega) (g_c0 hv26.ln) (Nat.le_of_ble_eq_true rfl) dX3_readNumbers_14 ?_
  intro r h37 hq _
  obtain ⟨v43, rfl, v43l, v43u, hv37, f38, f39, f40, f41, f42, pt37⟩ := hq
  have pr37 : PR h → PR h37 := fun z => pt37 (pr26 z)
  have fx37 : FX KC0 h h37 := FX.tr fx26 f42
  have k44 := bd2_e k27 f41
  obtain ⟨u45, u45w⟩ : ∃ v : Int32, v = h37.2.1 34 1 := ⟨_, rfl⟩
  have u45e : (h37.2.1 34 1).toInt = u45.toInt := by rw [u45w]
  have u45l : 0 ≤ u45.toInt := by rw [u45w]; exact (hv37.2.1 34 1).1
  have u45u : u45.toInt ≤ 500 := by rw [u45w]; exact (hv37.2.1 34 1).2
  have k46 := k44
  obtain ⟨u47, u47w⟩ : ∃ v : Int32, v = h37.2.1 34 2 := ⟨_, rfl⟩
  have u47e : (h37.2.1 34 2).toInt = u47.toInt := by rw [u47w]
  have u47l : 0 ≤ u47.toInt := by rw [u47w]; exact (hv37.2.1 34 2).1
  have u47u : u47.toInt ≤ 500 := by rw [u47w]; exact (hv37.2.1 34 2).2
  have k48 := bd_e k46 (congrArg Int32.toInt u47w.symm)
  obtain ⟨u49, u49w⟩ : ∃ v : Int32, v = h37.2.1 34 7 := ⟨_, rfl⟩
  have u49e : (h37.2.1 34 7).toInt = u49.toInt := by rw [u49w]
  have u49l : 0 ≤ u49.toInt := by rw [u49w]; exact (hv37.2.1 34 7).1
  have u49u : u49.toInt ≤ 7 := by rw [u49w]; exact (hv37.2.1 34 7).2
  have k50 := k48
  refine go_istore_n (pc := 17) (Nat.le_of_ble_eq_true rfl) dX3_readNumbers_17 (go_lv (lv2 := [(0, .ref 34), (1, .int a2), (2, .int v43)]) rfl ?_)
  refine go_iload_n (pc := 18) rfl dX3_readNumbers_18 ?_
  refine go_bipush (pc := 19) (v := 43) (by decide) dX3_readNumbers_19 ?_
  refine gf_icmp_eq (pc := 21) (tgt := 42) (ti_rfl v43) (ti_c (v := 43) (a := 43) (by decide)) (by decide) dX3_readNumbers_21 (fun q51 => ?_) (fun q51 => ?_)
  ·
    have k52 := if_t k50 q51
    refine go_aload_n (pc := 42) rfl dX3_readNumbers_42 ?_
    refine go_dup (pc := 43) rfl dX3_readNumbers_43 ?_
    refine gi_get (pc := 44) (lo := 0) (hi := 500) hv37 fL_X3_19 rfl (Nat.le_of_ble_eq_true rfl) rfl rfl dX3_readNumbers_44 (fun v53 v53l v53u v53w => ?_)
    have v53r : u47 = h37.2.1 34 2 := u47w
    have v53q : TI v53 u47.toInt := by rw [v53w.trans v53r.symm]; exact (ti_rfl u47)
    refine go_iconst (pc := 47) (v := 1) (by decide) dX3_readNumbers_47 ?_
    refine gf_iadd (pc := 48) v53q (ti_c (v := 1) (a := 1) (by decide)) (by omega) (by omega) dX3_readNumbers_48 (fun v54 e55 => ?_)
    refine gi_put (pc := 49) (lo := 0) (hi := 500) hv37 e55 (fP_X3_19 _) rfl (Nat.le_of_ble_eq_true rfl) rfl rfl (by omega) (by omega) rfl rfl (by decide) (by decide) (by decide) (by decide) dX3_readNumbers_49 (fun h56 hv56 hv56e => ?_)
    have pr56 : PR h → PR h56 := fun z => by rw [hv56e]; exact PR.put hv37 (pr37 z) (by omega)
    have fx56 : FX KC0 h h56 := FX.pI fx37 hv56e (by unfold KC0; omega)
    have k57 := bd_e k52 (st_I hv56e e55)
    refine go_aload_n (pc := 52) rfl dX3_readNumbers_52 ?_
    refine gi_getC (pc := 53) hv56 fL_X3_46 rfl (Nat.le_of_ble_eq_true rfl) rfl (by decide) dX3_readNumbers_53 (fun c58 hc58 fc58 => ?_)
    have k59 := bd_e k57 (st_c fc58)
    refine gi_getF (pc := 56) (q := c58 + 8) hv56 fL_X3_207 (by rcases hc58 with rfl | rfl <;> rfl) (Nat.le_of_ble_eq_true rfl) rfl (by rcases hc58 with rfl | rfl <;> exact hv56.rf (by decide)) dX3_readNumbers_56 ?_
    refine go_iload_n (pc := 59) rfl dX3_readNumbers_59 ?_
    refine go_iload_n (pc := 60) rfl dX3_readNumbers_60 ?_
    refine gi_iast (pc := 61) (lo := -2147483648) (hi := 2147483647) (len := 40) hv56 (ti_rfl a2) (ti_rfl v43) (by rcases hc58 with rfl | rfl <;> rfl) (by omega) (by omega) (fun _ => by rcases hc58 with rfl | rfl <;> rfl) (ti_ge (ti_rfl v43)) (ti_le2 (ti_rfl v43)) (by rcases hc58 with rfl | rfl <;> decide) dX3_readNumbers_61 (fun h60 hv60 hv60e => ?_)
    have pr60 : PR h → PR h60 := fun z => by rw [hv60e]; exact PR.put hv56 (pr56 z) (by omega)
    have fx60 : FX KC0 h h60 := FX.pI fx56 hv60e (by unfold KC0; omega)
    have k61 := bd_e k59 (st_I hv60e (ti_rfl v43))
    refine go_aload_n (pc := 62) rfl dX3_readNumbers_62 ?_
    refine gi_getC (pc := 63) hv60 fL_X3_46 rfl (Nat.le_of_ble_eq_true rfl) rfl (by decide) dX3_readNumbers_63 (fun c62 hc62 fc62 => ?_)
    have k63 := bd_e k61 (st_c fc62)
    refine gi_getF (pc := 66) (q := c62 + 10) hv60 fL_X3_184 (by rcases hc62 with rfl | rfl <;> rfl) (Nat.le_of_ble_eq_true rfl) rfl (by rcases hc62 with rfl | rfl <;> exact hv60.rf (by decide)) dX3_readNumbers_66 ?_
    refine go_iload_n (pc := 69) rfl dX3_readNumbers_69 ?_
    refine go_aload_n (pc := 70) rfl dX3_readNumbers_70 ?_
    have g64 : (0 : Int) ≤ (h60.2.1 34 1).toInt := (hv60.2.1 34 1).1
    have g65 : (h60.2.1 34 1).toInt ≤ 500 := (hv60.2.1 34 1).2
    have g66 : (0 : Int) ≤ (h60.2.1 34 2).toInt := (hv60.2.1 34 2).1
    have g67 : (h60.2.1 34 2).toInt ≤ 500 := (hv60.2.1 34 2).2
    have g68 : (0 : Int) ≤ (h60.2.1 34 7).toInt := (hv60.2.1 34 7).1
    have g69 : (h60.2.1 34 7).toInt ≤ 7 := (hv60.2.1 34 7).2
    have g70 : (h60.2.1 34 1).toInt = u45.toInt := by rw [← (show u45 = h60.2.1 34 1 from (show u45 = h60.2.1 34 1 from by rw [hv60e]; exact (g_iIc (by omega) (by decide) (show u45 = h56.2.1 34 1 from by rw [hv56e]; exact (g_iI rfl u45w.symm).symm).symm).symm))] <;> exact (ti_rfl u45)
    have g71 : (h60.2.1 34 7).toInt = u49.toInt := by rw [← (show u49 = h60.2.1 34 7 from (show u49 = h60.2.1 34 7 from by rw [hv60e]; exact (g_iIc (by omega) (by decide) (show u49 = h56.2.1 34 7 from by rw [hv56e]; exact (g_iI rfl u49w.symm).symm).symm).symm))] <;> exact (ti_rfl u49)
    have g72 : (h60.2.1 34 2).toInt = (u47.toInt + 1) := by rw [← (show v54 = h60.2.1 34 2 from (show v54 = h60.2.1 34 2 from by rw [hv60e]; exact (g_iIc (by omega) (by decide) (show v54 = h56.2.1 34 2 from by rw [hv56e]; exact g_iS.symm).symm).symm))] <;> exact e55
    refine go_invV (pc := 71) (sl := 0) (s_X3_readOperand_f l (d + 0) hv60 ) mL_X3_178 iM_X3_readOperand sM_X3_readOperand (hv60.sh rfl) rfl rfl rfl (Nat.le_of_ble_eq_true rfl) (show d + 0 + 3 + 1 ≤ d + 4 by omega) (show 8 + (3 + 11) + 40 * (d + 0 + 3) ≤ 40 * (d + 4) by omega) (g_c0 hv60.ln) (Nat.le_of_ble_eq_true rfl) dX3_readNumbers_71 ?_
    intro r h73 hq _
    obtain ⟨v78, rfl, v78l, v78u, hv73, f74, f75, f76, f77, pt73⟩ := hq
    have pr73 : PR h → PR h73 := fun z => pt73 (pr60 z)
    have fx73 : FX KC0 h h73 := FX.tr fx60 f77
    have k79 := bd2_e k63 f76
    obtain ⟨u80, u80w⟩ : ∃ v : Int32, v = h73.2.1 34 1 := ⟨_, rfl⟩
    have u80e : (h73.2.1 34 1).toInt = u80.toInt := by rw [u80w]
    have u80l : 0 ≤ u80.toInt := by rw [u80w]; exact (hv73.2.1 34 1).1
    have u80u : u80.toInt ≤ 500 := by rw [u80w]; exact (hv73.2.1 34 1).2
    have k81 := k79
    obtain ⟨u82, u82w⟩ : ∃ v : Int32, v = h73.2.1 34 2 := ⟨_, rfl⟩
    have u82e : (h73.2.1 34 2).toInt = u82.toInt := by rw [u82w]
    have u82l : 0 ≤ u82.toInt := by rw [u82w]; exact (hv73.2.1 34 2).1
    have u82u : u82.toInt ≤ 500 := by rw [u82w]; exact (hv73.2.1 34 2).2
    have k83 := k81
    obtain ⟨u84, u84w⟩ : ∃ v : Int32, v = h73.2.1 34 7 := ⟨_, rfl⟩
    have u84e : (h73.2.1 34 7).toInt = u84.toInt := by rw [u84w]
    have u84l : 0 ≤ u84.toInt := by rw [u84w]; exact (hv73.2.1 34 7).1
    have u84u : u84.toInt ≤ 7 := by rw [u84w]; exact (hv73.2.1 34 7).2
    have k85 := k83
    refine gi_iast (pc := 74) (lo := -2147483648) (hi := 2147483647) (len := 40) hv73 (ti_rfl a2) (ti_rfl v78) (by rcases hc62 with rfl | rfl <;> rfl) (by omega) (by omega) (fun _ => by rcases hc62 with rfl | rfl <;> rfl) (ti_ge (ti_rfl v78)) (ti_le2 (ti_rfl v78)) (by rcases hc62 with rfl | rfl <;> decide) dX3_readNumbers_74 (fun h86 hv86 hv86e => ?_)
    have pr86 : PR h → PR h86 := fun z => by rw [hv86e]; exact PR.put hv73 (pr73 z) (by omega)
    have fx86 : FX KC0 h h86 := FX.pI fx73 hv86e (by unfold KC0; omega)
    have k87 := bd_e k85 (st_I hv86e (ti_rfl v78))
    have g88 : (0 : Int) ≤ (h86.2.1 34 1).toInt := (hv86.2.1 34 1).1
    have g89 : (h86.2.1 34 1).toInt ≤ 500 := (hv86.2.1 34 1).2
    have g90 : (0 : Int) ≤ (h86.2.1 34 2).toInt := (hv86.2.1 34 2).1
    have g91 : (h86.2.1 34 2).toInt ≤ 500 := (hv86.2.1 34 2).2
    have g92 : (0 : Int) ≤ (h86.2.1 34 7).toInt := (hv86.2.1 34 7).1
    have g93 : (h86.2.1 34 7).toInt ≤ 7 := (hv86.2.1 34 7).2
    have g94 : (h86.2.1 34 1).toInt = u80.toInt := by rw [← (show u80 = h86.2.1 34 1 from (show u80 = h86.2.1 34 1 from by rw [hv86e]; exact (g_iIc (by omega) (by decide) u80w.symm).symm))] <;> exact (ti_rfl u80)
    have g95 : (h86.2.1 34 2).toInt = u82.toInt := by rw [← (show u82 = h86.2.1 34 2 from (show u82 = h86.2.1 34 2 from by rw [hv86e]; exact (g_iIc (by omega) (by decide) u82w.symm).symm))] <;> exact (ti_rfl u82)
    have g96 : (h86.2.1 34 7).toInt = u84.toInt := by rw [← (show u84 = h86.2.1 34 7 from (show u84 = h86.2.1 34 7 from by rw [hv86e]; exact (g_iIc (by omega) (by decide) u84w.symm).symm))] <;> exact (ti_rfl u84)
    exact gi_vret (pc := 75) ⟨rfl, hv86, (by omega), (by omega), (k87.symm.trans kf), fx86, pr86⟩ hv86 dX3_readNumbers_75
  ·
    have k97 := if_f k50 q51
    refine go_iload_n (pc := 24) rfl dX3_readNumbers_24 ?_
    refine go_bipush (pc := 25) (v := 45) (by decide) dX3_readNumbers_25 ?_
    refine gf_icmp_eq (pc := 27) (tgt := 42) (ti_rfl v43) (ti_c (v := 45) (a := 45) (by decide)) (by decide) dX3_readNumbers_27 (fun q98 => ?_) (fun q98 => ?_)
    ·
      have k99 := if_t k97 q98
      refine go_aload_n (pc := 42) rfl dX3_readNumbers_42 ?_
      refine go_dup (pc := 43) rfl dX3_readNumbers_43 ?_
      refine gi_get (pc := 44) (lo := 0) (hi := 500) hv37 fL_X3_19 rfl (Nat.le_of_ble_eq_true rfl) rfl rfl dX3_readNumbers_44 (fun v100 v100l v100u v100w => ?_)
      have v100r : u47 = h37.2.1 34 2 := u47w
      have v100q : TI v100 u47.toInt := by rw [v100w.trans v100r.symm]; exact (ti_rfl u47)
      refine go_iconst (pc := 47) (v := 1) (by decide) dX3_readNumbers_47 ?_
      refine gf_iadd (pc := 48) v100q (ti_c (v := 1) (a := 1) (by decide)) (by omega) (by omega) dX3_readNumbers_48 (fun v101 e102 => ?_)
      refine gi_put (pc := 49) (lo := 0) (hi := 500) hv37 e102 (fP_X3_19 _) rfl (Nat.le_of_ble_eq_true rfl) rfl rfl (by omega) (by omega) rfl rfl (by decide) (by decide) (by decide) (by decide) dX3_readNumbers_49 (fun h103 hv103 hv103e => ?_)
      have pr103 : PR h → PR h103 := fun z => by rw [hv103e]; exact PR.put hv37 (pr37 z) (by omega)
      have fx103 : FX KC0 h h103 := FX.pI fx37 hv103e (by unfold KC0; omega)
      have k104 := bd_e k99 (st_I hv103e e102)
      refine go_aload_n (pc := 52) rfl dX3_readNumbers_52 ?_
      refine gi_getC (pc := 53) hv103 fL_X3_46 rfl (Nat.le_of_ble_eq_true rfl) rfl (by decide) dX3_readNumbers_53 (fun c105 hc105 fc105 => ?_)
      have k106 := bd_e k104 (st_c fc105)
      refine gi_getF (pc := 56) (q := c105 + 8) hv103 fL_X3_207 (by rcases hc105 with rfl | rfl <;> rfl) (Nat.le_of_ble_eq_true rfl) rfl (by rcases hc105 with rfl | rfl <;> exact hv103.rf (by decide)) dX3_readNumbers_56 ?_
      refine go_iload_n (pc := 59) rfl dX3_readNumbers_59 ?_
      refine go_iload_n (pc := 60) rfl dX3_readNumbers_60 ?_
      refine gi_iast (pc := 61) (lo := -2147483648) (hi := 2147483647) (len := 40) hv103 (ti_rfl a2) (ti_rfl v43) (by rcases hc105 with rfl | rfl <;> rfl) (by omega) (by omega) (fun _ => by rcases hc105 with rfl | rfl <;> rfl) (ti_ge (ti_rfl v43)) (ti_le2 (ti_rfl v43)) (by rcases hc105 with rfl | rfl <;> decide) dX3_readNumbers_61 (fun h107 hv107 hv107e => ?_)
      have pr107 : PR h → PR h107 := fun z => by rw [hv107e]; exact PR.put hv103 (pr103 z) (by omega)
      have fx107 : FX KC0 h h107 := FX.pI fx103 hv107e (by unfold KC0; omega)
      have k108 := bd_e k106 (st_I hv107e (ti_rfl v43))
      refine go_aload_n (pc := 62) rfl dX3_readNumbers_62 ?_
      refine gi_getC (pc := 63) hv107 fL_X3_46 rfl (Nat.le_of_ble_eq_true rfl) rfl (by decide) dX3_readNumbers_63 (fun c109 hc109 fc109 => ?_)
      have k110 := bd_e k108 (st_c fc109)
      refine gi_getF (pc := 66) (q := c109 + 10) hv107 fL_X3_184 (by rcases hc109 with rfl | rfl <;> rfl) (Nat.le_of_ble_eq_true rfl) rfl (by rcases hc109 with rfl | rfl <;> exact hv107.rf (by decide)) dX3_readNumbers_66 ?_
      refine go_iload_n (pc := 69) rfl dX3_readNumbers_69 ?_
      refine go_aload_n (pc := 70) rfl dX3_readNumbers_70 ?_
      have g111 : (0 : Int) ≤ (h107.2.1 34 1).toInt := (hv107.2.1 34 1).1
      have g112 : (h107.2.1 34 1).toInt ≤ 500 := (hv107.2.1 34 1).2
      have g113 : (0 : Int) ≤ (h107.2.1 34 2).toInt := (hv107.2.1 34 2).1
      have g114 : (h107.2.1 34 2).toInt ≤ 500 := (hv107.2.1 34 2).2
      have g115 : (0 : Int) ≤ (h107.2.1 34 7).toInt := (hv107.2.1 34 7).1
      have g116 : (h107.2.1 34 7).toInt ≤ 7 := (hv107.2.1 34 7).2
      have g117 : (h107.2.1 34 1).toInt = u45.toInt := by rw [← (show u45 = h107.2.1 34 1 from (show u45 = h107.2.1 34 1 from by rw [hv107e]; exact (g_iIc (by omega) (by decide) (show u45 = h103.2.1 34 1 from by rw [hv103e]; exact (g_iI rfl u45w.symm).symm).symm).symm))] <;> exact (ti_rfl u45)
      have g118 : (h107.2.1 34 7).toInt = u49.toInt := by rw [← (show u49 = h107.2.1 34 7 from (show u49 = h107.2.1 34 7 from by rw [hv107e]; exact (g_iIc (by omega) (by decide) (show u49 = h103.2.1 34 7 from by rw [hv103e]; exact (g_iI rfl u49w.symm).symm).symm).symm))] <;> exact (ti_rfl u49)
      have g119 : (h107.2.1 34 2).toInt = (u47.toInt + 1) := by rw [← (show v101 = h107.2.1 34 2 from (show v101 = h107.2.1 34 2 from by rw [hv107e]; exact (g_iIc (by omega) (by decide) (show v101 = h103.2.1 34 2 from by rw [hv103e]; exact g_iS.symm).symm).symm))] <;> exact e102
      refine go_invV (pc := 71) (sl := 0) (s_X3_readOperand_f l (d + 0) hv107 ) mL_X3_178 iM_X3_readOperand sM_X3_readOperand (hv107.sh rfl) rfl rfl rfl (Nat.le_of_ble_eq_true rfl) (show d + 0 + 3 + 1 ≤ d + 4 by omega) (show 8 + (3 + 11) + 40 * (d + 0 + 3) ≤ 40 * (d + 4) by omega) (g_c0 hv107.ln) (Nat.le_of_ble_eq_true rfl) dX3_readNumbers_71 ?_
      intro r h120 hq _
      obtain ⟨v125, rfl, v125l, v125u, hv120, f121, f122, f123, f124, pt120⟩ := hq
      have pr120 : PR h → PR h120 := fun z => pt120 (pr107 z)
      have fx120 : FX KC0 h h120 := FX.tr fx107 f124
      have k126 := bd2_e k110 f123
      obtain ⟨u127, u127w⟩ : ∃ v : Int32, v = h120.2.1 34 1 := ⟨_, rfl⟩
      have u127e : (h120.2.1 34 1).toInt = u127.toInt := by rw [u127w]
      have u127l : 0 ≤ u127.toInt := by rw [u127w]; exact (hv120.2.1 34 1).1
      have u127u : u127.toInt ≤ 500 := by rw [u127w]; exact (hv120.2.1 34 1).2
      have k128 := k126
      obtain ⟨u129, u129w⟩ : ∃ v : Int32, v = h120.2.1 34 2 := ⟨_, rfl⟩
      have u129e : (h120.2.1 34 2).toInt = u129.toInt := by rw [u129w]
      have u129l : 0 ≤ u129.toInt := by rw [u129w]; exact (hv120.2.1 34 2).1
      have u129u : u129.toInt ≤ 500 := by rw [u129w]; exact (hv120.2.1 34 2).2
      have k130 := k128
      obtain ⟨u131, u131w⟩ : ∃ v : Int32, v = h120.2.1 34 7 := ⟨_, rfl⟩
      have u131e : (h120.2.1 34 7).toInt = u131.toInt := by rw [u131w]
      have u131l : 0 ≤ u131.toInt := by rw [u131w]; exact (hv120.2.1 34 7).1
      have u131u : u131.toInt ≤ 7 := by rw [u131w]; exact (hv120.2.1 34 7).2
      have k132 := k130
      refine gi_iast (pc := 74) (lo := -2147483648) (hi := 2147483647) (len := 40) hv120 (ti_rfl a2) (ti_rfl v125) (by rcases hc109 with rfl | rfl <;> rfl) (by omega) (by omega) (fun _ => by rcases hc109 with rfl | rfl <;> rfl) (ti_ge (ti_rfl v125)) (ti_le2 (ti_rfl v125)) (by rcases hc109 with rfl | rfl <;> decide) dX3_readNumbers_74 (fun h133 hv133 hv133e => ?_)
      have pr133 : PR h → PR h133 := fun z => by rw [hv133e]; exact PR.put hv120 (pr120 z) (by omega)
      have fx133 : FX KC0 h h133 := FX.pI fx120 hv133e (by unfold KC0; omega)
      have k134 := bd_e k132 (st_I hv133e (ti_rfl v125))
      have g135 : (0 : Int) ≤ (h133.2.1 34 1).toInt := (hv133.2.1 34 1).1
      have g136 : (h133.2.1 34 1).toInt ≤ 500 := (hv133.2.1 34 1).2
      have g137 : (0 : Int) ≤ (h133.2.1 34 2).toInt := (hv133.2.1 34 2).1
      have g138 : (h133.2.1 34 2).toInt ≤ 500 := (hv133.2.1 34 2).2
      have g139 : (0 : Int) ≤ (h133.2.1 34 7).toInt := (hv133.2.1 34 7).1
      have g140 : (h133.2.1 34 7).toInt ≤ 7 := (hv133.2.1 34 7).2
      have g141 : (h133.2.1 34 1).toInt = u127.toInt := by rw [← (show u127 = h133.2.1 34 1 from (show u127 = h133.2.1 34 1 from by rw [hv133e]; exact (g_iIc (by omega) (by decide) u127w.symm).symm))] <;> exact (ti_rfl u127)
      have g142 : (h133.2.1 34 2).toInt = u129.toInt := by rw [← (show u129 = h133.2.1 34 2 from (show u129 = h133.2.1 34 2 from by rw [hv133e]; exact (g_iIc (by omega) (by decide) u129w.symm).symm))] <;> exact (ti_rfl u129)
      have g143 : (h133.2.1 34 7).toInt = u131.toInt := by rw [← (show u131 = h133.2.1 34 7 from (show u131 = h133.2.1 34 7 from by rw [hv133e]; exact (g_iIc (by omega) (by decide) u131w.symm).symm))] <;> exact (ti_rfl u131)
      exact gi_vret (pc := 75) ⟨rfl, hv133, (by omega), (by omega), (k134.symm.trans kf), fx133, pr133⟩ hv133 dX3_readNumbers_75
    ·
      have k144 := if_f k97 q98
      refine go_iload_n (pc := 30) rfl dX3_readNumbers_30 ?_
      refine go_bipush (pc := 31) (v := 42) (by decide) dX3_readNumbers_31 ?_
      refine gf_icmp_eq (pc := 33) (tgt := 42) (ti_rfl v43) (ti_c (v := 42) (a := 42) (by decide)) (by decide) dX3_readNumbers_33 (fun q145 => ?_) (fun q145 => ?_)
      ·
        have k146 := if_t k144 q145
        refine go_aload_n (pc := 42) rfl dX3_readNumbers_42 ?_
        refine go_dup (pc := 43) rfl dX3_readNumbers_43 ?_
        refine gi_get (pc := 44) (lo := 0) (hi := 500) hv37 fL_X3_19 rfl (Nat.le_of_ble_eq_true rfl) rfl rfl dX3_readNumbers_44 (fun v147 v147l v147u v147w => ?_)
        have v147r : u47 = h37.2.1 34 2 := u47w
        have v147q : TI v147 u47.toInt := by rw [v147w.trans v147r.symm]; exact (ti_rfl u47)
        refine go_iconst (pc := 47) (v := 1) (by decide) dX3_readNumbers_47 ?_
        refine gf_iadd (pc := 48) v147q (ti_c (v := 1) (a := 1) (by decide)) (by omega) (by omega) dX3_readNumbers_48 (fun v148 e149 => ?_)
        refine gi_put (pc := 49) (lo := 0) (hi := 500) hv37 e149 (fP_X3_19 _) rfl (Nat.le_of_ble_eq_true rfl) rfl rfl (by omega) (by omega) rfl rfl (by decide) (by decide) (by decide) (by decide) dX3_readNumbers_49 (fun h150 hv150 hv150e => ?_)
        have pr150 : PR h → PR h150 := fun z => by rw [hv150e]; exact PR.put hv37 (pr37 z) (by omega)
        have fx150 : FX KC0 h h150 := FX.pI fx37 hv150e (by unfold KC0; omega)
        have k151 := bd_e k146 (st_I hv150e e149)
        refine go_aload_n (pc := 52) rfl dX3_readNumbers_52 ?_
        refine gi_getC (pc := 53) hv150 fL_X3_46 rfl (Nat.le_of_ble_eq_true rfl) rfl (by decide) dX3_readNumbers_53 (fun c152 hc152 fc152 => ?_)
        have k153 := bd_e k151 (st_c fc152)
        refine gi_getF (pc := 56) (q := c152 + 8) hv150 fL_X3_207 (by rcases hc152 with rfl | rfl <;> rfl) (Nat.le_of_ble_eq_true rfl) rfl (by rcases hc152 with rfl | rfl <;> exact hv150.rf (by decide)) dX3_readNumbers_56 ?_
        refine go_iload_n (pc := 59) rfl dX3_readNumbers_59 ?_
        refine go_iload_n (pc := 60) rfl dX3_readNumbers_60 ?_
        refine gi_iast (pc := 61) (lo := -2147483648) (hi := 2147483647) (len := 40) hv150 (ti_rfl a2) (ti_rfl v43) (by rcases hc152 with rfl | rfl <;> rfl) (by omega) (by omega) (fun _ => by rcases hc152 with rfl | rfl <;> rfl) (ti_ge (ti_rfl v43)) (ti_le2 (ti_rfl v43)) (by rcases hc152 with rfl | rfl <;> decide) dX3_readNumbers_61 (fun h154 hv154 hv154e => ?_)
        have pr154 : PR h → PR h154 := fun z => by rw [hv154e]; exact PR.put hv150 (pr150 z) (by omega)
        have fx154 : FX KC0 h h154 := FX.pI fx150 hv154e (by unfold KC0; omega)
        have k155 := bd_e k153 (st_I hv154e (ti_rfl v43))
        refine go_aload_n (pc := 62) rfl dX3_readNumbers_62 ?_
        refine gi_getC (pc := 63) hv154 fL_X3_46 rfl (Nat.le_of_ble_eq_true rfl) rfl (by decide) dX3_readNumbers_63 (fun c156 hc156 fc156 => ?_)
        have k157 := bd_e k155 (st_c fc156)
        refine gi_getF (pc := 66) (q := c156 + 10) hv154 fL_X3_184 (by rcases hc156 with rfl | rfl <;> rfl) (Nat.le_of_ble_eq_true rfl) rfl (by rcases hc156 with rfl | rfl <;> exact hv154.rf (by decide)) dX3_readNumbers_66 ?_
        refine go_iload_n (pc := 69) rfl dX3_readNumbers_69 ?_
        refine go_aload_n (pc := 70) rfl dX3_readNumbers_70 ?_
        have g158 : (0 : Int) ≤ (h154.2.1 34 1).toInt := (hv154.2.1 34 1).1
        have g159 : (h154.2.1 34 1).toInt ≤ 500 := (hv154.2.1 34 1).2
        have g160 : (0 : Int) ≤ (h154.2.1 34 2).toInt := (hv154.2.1 34 2).1
        have g161 : (h154.2.1 34 2).toInt ≤ 500 := (hv154.2.1 34 2).2
        have g162 : (0 : Int) ≤ (h154.2.1 34 7).toInt := (hv154.2.1 34 7).1
        have g163 : (h154.2.1 34 7).toInt ≤ 7 := (hv154.2.1 34 7).2
        have g164 : (h154.2.1 34 1).toInt = u45.toInt := by rw [← (show u45 = h154.2.1 34 1 from (show u45 = h154.2.1 34 1 from by rw [hv154e]; exact (g_iIc (by omega) (by decide) (show u45 = h150.2.1 34 1 from by rw [hv150e]; exact (g_iI rfl u45w.symm).symm).symm).symm))] <;> exact (ti_rfl u45)
        have g165 : (h154.2.1 34 7).toInt = u49.toInt := by rw [← (show u49 = h154.2.1 34 7 from (show u49 = h154.2.1 34 7 from by rw [hv154e]; exact (g_iIc (by omega) (by decide) (show u49 = h150.2.1 34 7 from by rw [hv150e]; exact (g_iI rfl u49w.symm).symm).symm).symm))] <;> exact (ti_rfl u49)
        have g166 : (h154.2.1 34 2).toInt = (u47.toInt + 1) := by rw [← (show v148 = h154.2.1 34 2 from (show v148 = h154.2.1 34 2 from by rw [hv154e]; exact (g_iIc (by omega) (by decide) (show v148 = h150.2.1 34 2 from by rw [hv150e]; exact g_iS.symm).symm).symm))] <;> exact e149
        refine go_invV (pc := 71) (sl := 0) (s_X3_readOperand_f l (d + 0) hv154 ) mL_X3_178 iM_X3_readOperand sM_X3_readOperand (hv154.sh rfl) rfl rfl rfl (Nat.le_of_ble_eq_true rfl) (show d + 0 + 3 + 1 ≤ d + 4 by omega) (show 8 + (3 + 11) + 40 * (d + 0 + 3) ≤ 40 * (d + 4) by omega) (g_c0 hv154.ln) (Nat.le_of_ble_eq_true rfl) dX3_readNumbers_71 ?_
        intro r h167 hq _
        obtain ⟨v172, rfl, v172l, v172u, hv167, f168, f169, f170, f171, pt167⟩ := hq
        have pr167 : PR h → PR h167 := fun z => pt167 (pr154 z)
        have fx167 : FX KC0 h h167 := FX.tr fx154 f171
        have k173 := bd2_e k157 f170
        obtain ⟨u174, u174w⟩ : ∃ v : Int32, v = h167.2.1 34 1 := ⟨_, rfl⟩
        have u174e : (h167.2.1 34 1).toInt = u174.toInt := by rw [u174w]
        have u174l : 0 ≤ u174.toInt := by rw [u174w]; exact (hv167.2.1 34 1).1
        have u174u : u174.toInt ≤ 500 := by rw [u174w]; exact (hv167.2.1 34 1).2
        have k175 := k173
        obtain ⟨u176, u176w⟩ : ∃ v : Int32, v = h167.2.1 34 2 := ⟨_, rfl⟩
        have u176e : (h167.2.1 34 2).toInt = u176.toInt := by rw [u176w]
        have u176l : 0 ≤ u176.toInt := by rw [u176w]; exact (hv167.2.1 34 2).1
        have u176u : u176.toInt ≤ 500 := by rw [u176w]; exact (hv167.2.1 34 2).2
        have k177 := k175
        obtain ⟨u178, u178w⟩ : ∃ v : Int32, v = h167.2.1 34 7 := ⟨_, rfl⟩
        have u178e : (h167.2.1 34 7).toInt = u178.toInt := by rw [u178w]
        have u178l : 0 ≤ u178.toInt := by rw [u178w]; exact (hv167.2.1 34 7).1
        have u178u : u178.toInt ≤ 7 := by rw [u178w]; exact (hv167.2.1 34 7).2
        have k179 := k177
        refine gi_iast (pc := 74) (lo := -2147483648) (hi := 2147483647) (len := 40) hv167 (ti_rfl a2) (ti_rfl v172) (by rcases hc156 with rfl | rfl <;> rfl) (by omega) (by omega) (fun _ => by rcases hc156 with rfl | rfl <;> rfl) (ti_ge (ti_rfl v172)) (ti_le2 (ti_rfl v172)) (by rcases hc156 with rfl | rfl <;> decide) dX3_readNumbers_74 (fun h180 hv180 hv180e => ?_)
        have pr180 : PR h → PR h180 := fun z => by rw [hv180e]; exact PR.put hv167 (pr167 z) (by omega)
        have fx180 : FX KC0 h h180 := FX.pI fx167 hv180e (by unfold KC0; omega)
        have k181 := bd_e k179 (st_I hv180e (ti_rfl v172))
        have g182 : (0 : Int) ≤ (h180.2.1 34 1).toInt := (hv180.2.1 34 1).1
        have g183 : (h180.2.1 34 1).toInt ≤ 500 := (hv180.2.1 34 1).2
        have g184 : (0 : Int) ≤ (h180.2.1 34 2).toInt := (hv180.2.1 34 2).1
        have g185 : (h180.2.1 34 2).toInt ≤ 500 := (hv180.2.1 34 2).2
        have g186 : (0 : Int) ≤ (h180.2.1 34 7).toInt := (hv180.2.1 34 7).1
        have g187 : (h180.2.1 34 7).toInt ≤ 7 := (hv180.2.1 34 7).2
        have g188 : (h180.2.1 34 1).toInt = u174.toInt := by rw [← (show u174 = h180.2.1 34 1 from (show u174 = h180.2.1 34 1 from by rw [hv180e]; exact (g_iIc (by omega) (by decide) u174w.symm).symm))] <;> exact (ti_rfl u174)
        have g189 : (h180.2.1 34 2).toInt = u176.toInt := by rw [← (show u176 = h180.2.1 34 2 from (show u176 = h180.2.1 34 2 from by rw [hv180e]; exact (g_iIc (by omega) (by decide) u176w.symm).symm))] <;> exact (ti_rfl u176)
        have g190 : (h180.2.1 34 7).toInt = u178.toInt := by rw [← (show u178 = h180.2.1 34 7 from (show u178 = h180.2.1 34 7 from by rw [hv180e]; exact (g_iIc (by omega) (by decide) u178w.symm).symm))] <;> exact (ti_rfl u178)
        exact gi_vret (pc := 75) ⟨rfl, hv180, (by omega), (by omega), (k181.symm.trans kf), fx180, pr180⟩ hv180 dX3_readNumbers_75
      ·
        have k191 := if_f k144 q145
        refine go_iload_n (pc := 36) rfl dX3_readNumbers_36 ?_
        refine go_bipush (pc := 37) (v := 60) (by decide) dX3_readNumbers_37 ?_
        refine gf_icmp_ne (pc := 39) (tgt := 75) (ti_rfl v43) (ti_c (v := 60) (a := 60) (by decide)) (by decide) dX3_readNumbers_39 (fun q192 => ?_) (fun q192 => ?_)
        ·
          have k193 := if_t k191 q192
          have g194 : (0 : Int) ≤ (h37.2.1 34 1).toInt := (hv37.2.1 34 1).1
          have g195 : (h37.2.1 34 1).toInt ≤ 500 := (hv37.2.1 34 1).2
          have g196 : (0 : Int) ≤ (h37.2.1 34 2).toInt := (hv37.2.1 34 2).1
          have g197 : (h37.2.1 34 2).toInt ≤ 500 := (hv37.2.1 34 2).2
          have g198 : (0 : Int) ≤ (h37.2.1 34 7).toInt := (hv37.2.1 34 7).1
          have g199 : (h37.2.1 34 7).toInt ≤ 7 := (hv37.2.1 34 7).2
          have g200 : (h37.2.1 34 1).toInt = u45.toInt := by rw [← (show u45 = h37.2.1 34 1 from u45w)] <;> exact (ti_rfl u45)
          have g201 : (h37.2.1 34 2).toInt = u47.toInt := by rw [← (show u47 = h37.2.1 34 2 from u47w)] <;> exact (ti_rfl u47)
          have g202 : (h37.2.1 34 7).toInt = u49.toInt := by rw [← (show u49 = h37.2.1 34 7 from u49w)] <;> exact (ti_rfl u49)
          exact gi_vret (pc := 75) ⟨rfl, hv37, (by omega), (by omega), (k193.symm.trans kf), fx37, pr37⟩ hv37 dX3_readNumbers_75
        ·
          have k203 := if_f k191 (fun z => z q192)
          refine go_aload_n (pc := 42) rfl dX3_readNumbers_42 ?_
          refine go_dup (pc := 43) rfl dX3_readNumbers_43 ?_
          refine gi_get (pc := 44) (lo := 0) (hi := 500) hv37 fL_X3_19 rfl (Nat.le_of_ble_eq_true rfl) rfl rfl dX3_readNumbers_44 (fun v204 v204l v204u v204w => ?_)
          have v204r : u47 = h37.2.1 34 2 := u47w
          have v204q : TI v204 u47.toInt := by rw [v204w.trans v204r.symm]; exact (ti_rfl u47)
          refine go_iconst (pc := 47) (v := 1) (by decide) dX3_readNumbers_47 ?_
          refine gf_iadd (pc := 48) v204q (ti_c (v := 1) (a := 1) (by decide)) (by omega) (by omega) dX3_readNumbers_48 (fun v205 e206 => ?_)
          refine gi_put (pc := 49) (lo := 0) (hi := 500) hv37 e206 (fP_X3_19 _) rfl (Nat.le_of_ble_eq_true rfl) rfl rfl (by omega) (by omega) rfl rfl (by decide) (by decide) (by decide) (by decide) dX3_readNumbers_49 (fun h207 hv207 hv207e => ?_)
          have pr207 : PR h → PR h207 := fun z => by rw [hv207e]; exact PR.put hv37 (pr37 z) (by omega)
          have fx207 : FX KC0 h h207 := FX.pI fx37 hv207e (by unfold KC0; omega)
          have k208 := bd_e k203 (st_I hv207e e206)
          refine go_aload_n (pc := 52) rfl dX3_readNumbers_52 ?_
          refine gi_getC (pc := 53) hv207 fL_X3_46 rfl (Nat.le_of_ble_eq_true rfl) rfl (by decide) dX3_readNumbers_53 (fun c209 hc209 fc209 => ?_)
          have k210 := bd_e k208 (st_c fc209)
          refine gi_getF (pc := 56) (q := c209 + 8) hv207 fL_X3_207 (by rcases hc209 with rfl | rfl <;> rfl) (Nat.le_of_ble_eq_true rfl) rfl (by rcases hc209 with rfl | rfl <;> exact hv207.rf (by decide)) dX3_readNumbers_56 ?_
          refine go_iload_n (pc := 59) rfl dX3_readNumbers_59 ?_
          refine go_iload_n (pc := 60) rfl dX3_readNumbers_60 ?_
          refine gi_iast (pc := 61) (lo := -2147483648) (hi := 2147483647) (len := 40) hv207 (ti_rfl a2) (ti_rfl v43) (by rcases hc209 with rfl | rfl <;> rfl) (by omega) (by omega) (fun _ => by rcases hc209 with rfl | rfl <;> rfl) (ti_ge (ti_rfl v43)) (ti_le2 (ti_rfl v43)) (by rcases hc209 with rfl | rfl <;> decide) dX3_readNumbers_61 (fun h211 hv211 hv211e => ?_)
          have pr211 : PR h → PR h211 := fun z => by rw [hv211e]; exact PR.put hv207 (pr207 z) (by omega)
          have fx211 : FX KC0 h h211 := FX.pI fx207 hv211e (by unfold KC0; omega)
          have k212 := bd_e k210 (st_I hv211e (ti_rfl v43))
          refine go_aload_n (pc := 62) rfl dX3_readNumbers_62 ?_
          refine gi_getC (pc := 63) hv211 fL_X3_46 rfl (Nat.le_of_ble_eq_true rfl) rfl (by decide) dX3_readNumbers_63 (fun c213 hc213 fc213 => ?_)
          have k214 := bd_e k212 (st_c fc213)
          refine gi_getF (pc := 66) (q := c213 + 10) hv211 fL_X3_184 (by rcases hc213 with rfl | rfl <;> rfl) (Nat.le_of_ble_eq_true rfl) rfl (by rcases hc213 with rfl | rfl <;> exact hv211.rf (by decide)) dX3_readNumbers_66 ?_
          refine go_iload_n (pc := 69) rfl dX3_readNumbers_69 ?_
          refine go_aload_n (pc := 70) rfl dX3_readNumbers_70 ?_
          have g215 : (0 : Int) ≤ (h211.2.1 34 1).toInt := (hv211.2.1 34 1).1
          have g216 : (h211.2.1 34 1).toInt ≤ 500 := (hv211.2.1 34 1).2
          have g217 : (0 : Int) ≤ (h211.2.1 34 2).toInt := (hv211.2.1 34 2).1
          have g218 : (h211.2.1 34 2).toInt ≤ 500 := (hv211.2.1 34 2).2
          have g219 : (0 : Int) ≤ (h211.2.1 34 7).toInt := (hv211.2.1 34 7).1
          have g220 : (h211.2.1 34 7).toInt ≤ 7 := (hv211.2.1 34 7).2
          have g221 : (h211.2.1 34 1).toInt = u45.toInt := by rw [← (show u45 = h211.2.1 34 1 from (show u45 = h211.2.1 34 1 from by rw [hv211e]; exact (g_iIc (by omega) (by decide) (show u45 = h207.2.1 34 1 from by rw [hv207e]; exact (g_iI rfl u45w.symm).symm).symm).symm))] <;> exact (ti_rfl u45)
          have g222 : (h211.2.1 34 7).toInt = u49.toInt := by rw [← (show u49 = h211.2.1 34 7 from (show u49 = h211.2.1 34 7 from by rw [hv211e]; exact (g_iIc (by omega) (by decide) (show u49 = h207.2.1 34 7 from by rw [hv207e]; exact (g_iI rfl u49w.symm).symm).symm).symm))] <;> exact (ti_rfl u49)
          have g223 : (h211.2.1 34 2).toInt = (u47.toInt + 1) := by rw [← (show v205 = h211.2.1 34 2 from (show v205 = h211.2.1 34 2 from by rw [hv211e]; exact (g_iIc (by omega) (by decide) (show v205 = h207.2.1 34 2 from by rw [hv207e]; exact g_iS.symm).symm).symm))] <;> exact e206
          refine go_invV (pc := 71) (sl := 0) (s_X3_readOperand_f l (d + 0) hv211 ) mL_X3_178 iM_X3_readOperand sM_X3_readOperand (hv211.sh rfl) rfl rfl rfl (Nat.le_of_ble_eq_true rfl) (show d + 0 + 3 + 1 ≤ d + 4 by omega) (show 8 + (3 + 11) + 40 * (d + 0 + 3) ≤ 40 * (d + 4) by omega) (g_c0 hv211.ln) (Nat.le_of_ble_eq_true rfl) dX3_readNumbers_71 ?_
          intro r h224 hq _
          obtain ⟨v229, rfl, v229l, v229u, hv224, f225, f226, f227, f228, pt224⟩ := hq
          have pr224 : PR h → PR h224 := fun z => pt224 (pr211 z)
          have fx224 : FX KC0 h h224 := FX.tr fx211 f228
          have k230 := bd2_e k214 f227
          obtain ⟨u231, u231w⟩ : ∃ v : Int32, v = h224.2.1 34 1 := ⟨_, rfl⟩
          have u231e : (h224.2.1 34 1).toInt = u231.toInt := by rw [u231w]
          have u231l : 0 ≤ u231.toInt := by rw [u231w]; exact (hv224.2.1 34 1).1
          have u231u : u231.toInt ≤ 500 := by rw [u231w]; exact (hv224.2.1 34 1).2
          have k232 := k230
          obtain ⟨u233, u233w⟩ : ∃ v : Int32, v = h224.2.1 34 2 := ⟨_, rfl⟩
          have u233e : (h224.2.1 34 2).toInt = u233.toInt := by rw [u233w]
          have u233l : 0 ≤ u233.toInt := by rw [u233w]; exact (hv224.2.1 34 2).1
          have u233u : u233.toInt ≤ 500 := by rw [u233w]; exact (hv224.2.1 34 2).2
          have k234 := k232
          obtain ⟨u235, u235w⟩ : ∃ v : Int32, v = h224.2.1 34 7 := ⟨_, rfl⟩
          have u235e : (h224.2.1 34 7).toInt = u235.toInt := by rw [u235w]
          have u235l : 0 ≤ u235.toInt := by rw [u235w]; exact (hv224.2.1 34 7).1
          have u235u : u235.toInt ≤ 7 := by rw [u235w]; exact (hv224.2.1 34 7).2
          have k236 := k234
          refine gi_iast (pc := 74) (lo := -2147483648) (hi := 2147483647) (len := 40) hv224 (ti_rfl a2) (ti_rfl v229) (by rcases hc213 with rfl | rfl <;> rfl) (by omega) (by omega) (fun _ => by rcases hc213 with rfl | rfl <;> rfl) (ti_ge (ti_rfl v229)) (ti_le2 (ti_rfl v229)) (by rcases hc213 with rfl | rfl <;> decide) dX3_readNumbers_74 (fun h237 hv237 hv237e => ?_)
          have pr237 : PR h → PR h237 := fun z => by rw [hv237e]; exact PR.put hv224 (pr224 z) (by omega)
          have fx237 : FX KC0 h h237 := FX.pI fx224 hv237e (by unfold KC0; omega)
          have k238 := bd_e k236 (st_I hv237e (ti_rfl v229))
          have g239 : (0 : Int) ≤ (h237.2.1 34 1).toInt := (hv237.2.1 34 1).1
          have g240 : (h237.2.1 34 1).toInt ≤ 500 := (hv237.2.1 34 1).2
          have g241 : (0 : Int) ≤ (h237.2.1 34 2).toInt := (hv237.2.1 34 2).1
          have g242 : (h237.2.1 34 2).toInt ≤ 500 := (hv237.2.1 34 2).2
          have g243 : (0 : Int) ≤ (h237.2.1 34 7).toInt := (hv237.2.1 34 7).1
          have g244 : (h237.2.1 34 7).toInt ≤ 7 := (hv237.2.1 34 7).2
          have g245 : (h237.2.1 34 1).toInt = u231.toInt := by rw [← (show u231 = h237.2.1 34 1 from (show u231 = h237.2.1 34 1 from by rw [hv237e]; exact (g_iIc (by omega) (by decide) u231w.symm).symm))] <;> exact (ti_rfl u231)
          have g246 : (h237.2.1 34 2).toInt = u233.toInt := by rw [← (show u233 = h237.2.1 34 2 from (show u233 = h237.2.1 34 2 from by rw [hv237e]; exact (g_iIc (by omega) (by decide) u233w.symm).symm))] <;> exact (ti_rfl u233)
          have g247 : (h237.2.1 34 7).toInt = u235.toInt := by rw [← (show u235 = h237.2.1 34 7 from (show u235 = h237.2.1 34 7 from by rw [hv237e]; exact (g_iIc (by omega) (by decide) u235w.symm).symm))] <;> exact (ti_rfl u235)
          exact gi_vret (pc := 75) ⟨rfl, hv237, (by omega), (by omega), (k238.symm.trans kf), fx237, pr237⟩ hv237 dX3_readNumbers_75
def f_X3_readCondition (s : ST) (a2 : Int) (a3 : Int) : ST :=
  bd (s.2.2 34 4) fun c1 => bd2 (f_X3_readOperand s) fun s3 v8 => bd (sI s3 (c1 + 9) (a2).toNat v8) fun s10 => bd (f_X3_take s10 60) fun s12 => bd (s12.2.2 34 4) fun c18 => bd2 (f_X3_readOperand s12) fun s20 v25 => bd (sI s20 (c18 + 10) (a2).toNat v25) fun s27 => bd (f_X3_openBlock s27 a3 0) fun s29 => s29
set_option maxHeartbeats 4000000 in
set_option maxRecDepth 100000 in
theorem s_X3_readCondition_f (l : Launch) (d : Nat) {P : PP} {h : HP} (hv : Iv P h) (a2 : Int32) (a2l : 0 ≤ a2.toInt) (a2u : a2.toInt ≤ 39) (a3 : Int32) (a3l : -1 ≤ a3.toInt) (a3u : a3.toInt ≤ 127) : Mt l yX3_readCondition cX3_readCondition 3 none (d + 4) [.ref 34, .int a2, .int a3] h 0 0 (fun r h' => r = none ∧ Iv P h' ∧ (st h' = f_X3_readCondition (st h) a2.toInt a3.toInt) ∧ (FX KC0 h h') ∧ (PR h → PR h')) := by
  refine Mt_iv hv (by decide) (Nat.le_of_ble_eq_true rfl) ?_
  show Go l RX3 cX3_readCondition 3 (g_rm (d + 4) 0 0) "readCondition" none 117 0 0 (fun _ _ => True) (fun r h' => r = none ∧ Iv P h' ∧ (st h' = f_X3_readCondition (st h) a2.toInt a3.toInt) ∧ (FX KC0 h h') ∧ (PR h → PR h')) 0 0 [(0, .ref 34), (1, .int a2), (2, .int a3)] [] h
  have pr : PR h → PR h := id
  have fx : FX KC0 h h := FX.rfl
  obtain ⟨fin, kf⟩ : ∃ z, z = f_X3_readCondition (st h) a2.toInt a3.toInt := ⟨_, _root_.rfl⟩
  have k0 := kf
  unfold f_X3_readCondition at k0
  refine go_aload_n (pc := 0) rfl dX3_readCondition_0 ?_
  refine gi_getC (pc := 1) hv fL_X3_46 rfl (Nat.le_of_ble_eq_true rfl) rfl (by decide) dX3_readCondition_1 (fun c1 hc1 fc1 => ?_)
  have k2 := bd_e k0 (st_c fc1)
  refine gi_getF (pc := 4) (q := c1 + 9) hv fL_X3_175 (by rcases hc1 with rfl | rfl <;> rfl) (Nat.le_of_ble_eq_true rfl) rfl (by rcases hc1 with rfl | rfl <;> exact hv.rf (by decide)) dX3_readCondition_4 ?_
  refine go_iload_n (pc := 7) rfl dX3_readCondition_7 ?_
  refine go_aload_n (pc := 8) rfl dX3_readCondition_8 ?_
  refine go_invV (pc := 9) (sl := 0) (s_X3_readOperand_f l (d + 0) hv ) mL_X3_178 iM_X3_readOperand sM_X3_readOperand (hv.sh rfl) rfl rfl rfl (Nat.le_of_ble_eq_true rfl) (show d + 0 + 3 + 1 ≤ d + 4 by omega) (show 8 + (3 + 11) + 40 * (d + 0 + 3) ≤ 40 * (d + 4) by omega) (g_c0 hv.ln) (Nat.le_of_ble_eq_true rfl) dX3_readCondition_9 ?_
  intro r h3 hq _
  obtain ⟨v8, rfl, v8l, v8u, hv3, f4, f5, f6, f7, pt3⟩ := hq
  have pr3 : PR h → PR h3 := fun z => pt3 (pr z)
  have fx3 : FX KC0 h h3 := FX.tr fx f7
  have k9 := bd2_e k2 f6
  refine gi_iast (pc := 12) (lo := -2147483648) (hi := 2147483647) (len := 40) hv3 (ti_rfl a2) (ti_rfl v8) (by rcases hc1 with rfl | rfl <;> rfl) (by omega) (by omega) (fun _ => by rcases hc1 with rfl | rfl <;> rfl) (ti_ge (ti_rfl v8)) (ti_le2 (ti_rfl v8)) (by rcases hc1 with rfl | rfl <;> decide) dX3_readCondition_12 (fun h10 hv10 hv10e => ?_)
  have pr10 : PR h → PR h10 := fun z => by rw [hv10e]; exact PR.put hv3 (pr3 z) (by omega)
  have fx10 : FX KC0 h h10 := FX.pI fx3 hv10e (by unfold KC0; omega)
  have k11 := bd_e k9 (st_I hv10e (ti_rfl v8))
  refine go_aload_n (pc := 13) rfl dX3_readCondition_13 ?_
  refine go_bipush (pc := 14) (v := 60) (by decide) dX3_readCondition_14 ?_
  refine go_invV (pc := 16) (sl := 0) (s_X3_take_f l (d + 1) hv10 60 (by rw [show (60 : Int32).toInt = 60 from (ti_c (v := 60) (a := 60) (by decide))]; omega) (by rw [show (60 : Int32).toInt = 60 from (ti_c (v := 60) (a := 60) (by decide))]; omega)) mL_X3_181 iM_X3_take sM_X3_take (hv10.sh rfl) rfl rfl rfl (Nat.le_of_ble_eq_true rfl) (show d + 1 + 2 + 1 ≤ d + 4 by omega) (show 8 + (2 + 11) + 40 * (d + 1 + 2) ≤ 40 * (d + 4) by omega) (g_c0 hv10.ln) (Nat.le_of_ble_eq_true rfl) dX3_readCondition_16 ?_
  intro r h12 hq _
  obtain ⟨rfl, hv12, f13, f14, f15, f16, pt12⟩ := hq
  have pr12 : PR h → PR h12 := fun z => pt12 (pr10 z)
  try rw [show (60 : Int32).toInt = 60 from (ti_c (v := 60) (a := 60) (by decide))] at f13
  try rw [show (60 : Int32).toInt = 60 from (ti_c (v := 60) (a := 60) (by decide))] at f14
  try rw [show (60 : Int32).toInt = 60 from (ti_c (v := 60) (a := 60) (by decide))] at f15
  try rw [show (60 : Int32).toInt = 60 from (ti_c (v := 60) (a := 60) (by decide))] at f16
  have fx12 : FX KC0 h h12 := FX.tr fx10 f16
  have k17 := bd_e k11 f15.symm
  refine go_aload_n (pc := 19) rfl dX3_readCondition_19 ?_
  refine gi_getC (pc := 20) hv12 fL_X3_46 rfl (Nat.le_of_ble_eq_true rfl) rfl (by decide) dX3_readCondition_20 (fun c18 hc18 fc18 => ?_)
  have k19 := bd_e k17 (st_c fc18)
  refine gi_getF (pc := 23) (q := c18 + 10) hv12 fL_X3_184 (by rcases hc18 with rfl | rfl <;> rfl) (Nat.le_of_ble_eq_true rfl) rfl (by rcases hc18 with rfl | rfl <;> exact hv12.rf (by decide)) dX3_readCondition_23 ?_
  refine go_iload_n (pc := 26) rfl dX3_readCondition_26 ?_
  refine go_aload_n (pc := 27) rfl dX3_readCondition_27 ?_
  refine go_invV (pc := 28) (sl := 0) (s_X3_readOperand_f l (d + 0) hv12 ) mL_X3_178 iM_X3_readOperand sM_X3_readOperand (hv12.sh rfl) rfl rfl rfl (Nat.le_of_ble_eq_true rfl) (show d + 0 + 3 + 1 ≤ d + 4 by omega) (show 8 + (3 + 11) + 40 * (d + 0 + 3) ≤ 40 * (d + 4) by omega) (g_c0 hv12.ln) (Nat.le_of_ble_eq_true rfl) dX3_readCondition_28 ?_
  intro r h20 hq _
  obtain ⟨v25, rfl, v25l, v25u, hv20, f21, f22, f23, f24, pt20⟩ := hq
  have pr20 : PR h → PR h20 := fun z => pt20 (pr12 z)
  have fx20 : FX KC0 h h20 := FX.tr fx12 f24
  have k26 := bd2_e k19 f23
  refine gi_iast (pc := 31) (lo := -2147483648) (hi := 2147483647) (len := 40) hv20 (ti_rfl a2) (ti_rfl v25) (by rcases hc18 with rfl | rfl <;> rfl) (by omega) (by omega) (fun _ => by rcases hc18 with rfl | rfl <;> rfl) (ti_ge (ti_rfl v25)) (ti_le2 (ti_rfl v25)) (by rcases hc18 with rfl | rfl <;> decide) dX3_readCondition_31 (fun h27 hv27 hv27e => ?_)
  have pr27 : PR h → PR h27 := fun z => by rw [hv27e]; exact PR.put hv20 (pr20 z) (by omega)
  have fx27 : FX KC0 h h27 := FX.pI fx20 hv27e (by unfold KC0; omega)
  have k28 := bd_e k26 (st_I hv27e (ti_rfl v25))
  refine go_aload_n (pc := 32) rfl dX3_readCondition_32 ?_
  refine go_iload_n (pc := 33) rfl dX3_readCondition_33 ?_
  refine go_iconst (pc := 34) (v := 0) (by decide) dX3_readCondition_34 ?_
  refine go_invV (pc := 35) (sl := 0) (s_X3_openBlock_f l (d + 1) hv27 a3 (by rw [show (a3 : Int32).toInt = a3.toInt from (ti_rfl a3)]; omega) (by rw [show (a3 : Int32).toInt = a3.toInt from (ti_rfl a3)]; omega) 0 (by rw [show (0 : Int32).toInt = 0 from (ti_c (v := 0) (a := 0) (by decide))]; omega) (by rw [show (0 : Int32).toInt = 0 from (ti_c (v := 0) (a := 0) (by decide))]; omega)) mL_X3_118 iM_X3_openBlock sM_X3_openBlock (hv27.sh rfl) rfl rfl rfl (Nat.le_of_ble_eq_true rfl) (show d + 1 + 2 + 1 ≤ d + 4 by omega) (show 8 + (3 + 11) + 40 * (d + 1 + 2) ≤ 40 * (d + 4) by omega) (g_c0 hv27.ln) (Nat.le_of_ble_eq_true rfl) dX3_readCondition_35 ?_
  intro r h29 hq _
  obtain ⟨rfl, hv29, f30, f31, pt29⟩ := hq
  have pr29 : PR h → PR h29 := fun z => pt29 (pr27 z)
  try rw [show (0 : Int32).toInt = 0 from (ti_c (v := 0) (a := 0) (by decide))] at f30
  try rw [show (0 : Int32).toInt = 0 from (ti_c (v := 0) (a := 0) (by decide))] at f31
  have fx29 : FX KC0 h h29 := FX.tr fx27 f31
  have k32 := bd_e k28 f30.symm
  exact gi_vret (pc := 38) ⟨rfl, hv29, (k32.symm.trans kf), fx29, pr29⟩ hv29 dX3_readCondition_38
def f_X3_readTry (s : ST) : ST :=
  bd2 (f_X3_addItem s (-1)) fun s5 v11 => bd (s5.1 34 2) fun u13 => bd (sI s5 34 2 ((u13 + 1))) fun s20 => bd (f_X3_openBlock s20 v11 0) fun s28 => s28
set_option maxHeartbeats 4000000 in
set_option maxRecDepth 100000 in
theorem s_X3_readTry_f (l : Launch) (d : Nat) {P : PP} {h : HP} (hv : Iv P h) (hp : 1 ≤ (h.2.1 34 7).toInt) (hp2 : (h.2.1 34 2).toInt ≤ 499) : Mt l yX3_readTry cX3_readTry 2 none (d + 3) [.ref 34] h 0 0 (fun r h' => r = none ∧ Iv P h' ∧ (st h' = f_X3_readTry (st h)) ∧ (FX KC0 h h') ∧ (PR h → PR h')) := by
  refine Mt_iv hv (by decide) (Nat.le_of_ble_eq_true rfl) ?_
  show Go l RX3 cX3_readTry 2 (g_rm (d + 3) 0 0) "readTry" none 117 0 0 (fun _ _ => True) (fun r h' => r = none ∧ Iv P h' ∧ (st h' = f_X3_readTry (st h)) ∧ (FX KC0 h h') ∧ (PR h → PR h')) 0 0 [(0, .ref 34)] [] h
  have pr : PR h → PR h := id
  have fx : FX KC0 h h := FX.rfl
  obtain ⟨fin, kf⟩ : ∃ z, z = f_X3_readTry (st h) := ⟨_, _root_.rfl⟩
  have k0 := kf
  unfold f_X3_readTry at k0
  refine go_aload_n (pc := 0) rfl dX3_readTry_0 ?_
  refine go_iconst (pc := 1) (v := (-1)) (by decide) dX3_readTry_1 ?_
  have g1 : (0 : Int) ≤ (h.2.1 34 2).toInt := (hv.2.1 34 2).1
  have g2 : (h.2.1 34 2).toInt ≤ 500 := (hv.2.1 34 2).2
  have g3 : (0 : Int) ≤ (h.2.1 34 7).toInt := (hv.2.1 34 7).1
  have g4 : (h.2.1 34 7).toInt ≤ 7 := (hv.2.1 34 7).2
  refine go_invV (pc := 2) (sl := 0) (s_X3_addItem_f l (d + 0) hv (-1) (by rw [show ((-1) : Int32).toInt = (-1) from (ti_c (v := (-1)) (a := (-1)) (by decide))]; omega) (by rw [show ((-1) : Int32).toInt = (-1) from (ti_c (v := (-1)) (a := (-1)) (by decide))]; omega) (by omega)) mL_X3_157 iM_X3_addItem sM_X3_addItem (hv.sh rfl) rfl rfl rfl (Nat.le_of_ble_eq_true rfl) (show d + 0 + 2 + 1 ≤ d + 3 by omega) (show 8 + (3 + 11) + 40 * (d + 0 + 2) ≤ 40 * (d + 3) by omega) (g_c0 hv.ln) (Nat.le_of_ble_eq_true rfl) dX3_readTry_2 ?_
  intro r h5 hq _
  obtain ⟨v11, rfl, v11l, v11u, hv5, f6, f7, f8, f9, f10, pt5⟩ := hq
  have pr5 : PR h → PR h5 := fun z => pt5 (pr z)
  try rw [show ((-1) : Int32).toInt = (-1) from (ti_c (v := (-1)) (a := (-1)) (by decide))] at f6
  try rw [show ((-1) : Int32).toInt = (-1) from (ti_c (v := (-1)) (a := (-1)) (by decide))] at f7
  try rw [show ((-1) : Int32).toInt = (-1) from (ti_c (v := (-1)) (a := (-1)) (by decide))] at f8
  try rw [show ((-1) : Int32).toInt = (-1) from (ti_c (v := (-1)) (a := (-1)) (by decide))] at f9
  try rw [show ((-1) : Int32).toInt = (-1) from (ti_c (v := (-1)) (a := (-1)) (by decide))] at f10
  have fx5 : FX KC0 h h5 := FX.tr fx f10
  have k12 := bd2_e k0 f9
  obtain ⟨u13, u13w⟩ : ∃ v : Int32, v = h5.2.1 34 2 := ⟨_, rfl⟩
  have u13e : (h5.2.1 34 2).toInt = u13.toInt := by rw [u13w]
  have u13l : 0 ≤ u13.toInt := by rw [u13w]; exact (hv5.2.1 34 2).1
  have u13u : u13.toInt ≤ 500 := by rw [u13w]; exact (hv5.2.1 34 2).2
  have k14 := bd_e k12 (congrArg Int32.toInt u13w.symm)
  obtain ⟨u15, u15w⟩ : ∃ v : Int32, v = h5.2.1 34 7 := ⟨_, rfl⟩
  have u15e : (h5.2.1 34 7).toInt = u15.toInt := by rw [u15w]
  have u15l : 0 ≤ u15.toInt := by rw [u15w]; exact (hv5.2.1 34 7).1
  have u15u : u15.toInt ≤ 7 := by rw [u15w]; exact (hv5.2.1 34 7).2
  have k16 := k14
  refine go_istore_n (pc := 5) (Nat.le_of_ble_eq_true rfl) dX3_readTry_5 (go_lv (lv2 := [(0, .ref 34), (1, .int v11)]) rfl ?_)
  refine go_aload_n (pc := 6) rfl dX3_readTry_6 ?_
  refine go_dup (pc := 7) rfl dX3_readTry_7 ?_
  refine gi_get (pc := 8) (lo := 0) (hi := 500) hv5 fL_X3_19 rfl (Nat.le_of_ble_eq_true rfl) rfl rfl dX3_readTry_8 (fun v17 v17l v17u v17w => ?_)
  have v17r : u13 = h5.2.1 34 2 := u13w
  have v17q : TI v17 u13.toInt := by rw [v17w.trans v17r.symm]; exact (ti_rfl u13)
  refine go_iconst (pc := 11) (v := 1) (by decide) dX3_readTry_11 ?_
  refine gf_iadd (pc := 12) v17q (ti_c (v := 1) (a := 1) (by decide)) (by omega) (by omega) dX3_readTry_12 (fun v18 e19 => ?_)
  refine gi_put (pc := 13) (lo := 0) (hi := 500) hv5 e19 (fP_X3_19 _) rfl (Nat.le_of_ble_eq_true rfl) rfl rfl (by omega) (by omega) rfl rfl (by decide) (by decide) (by decide) (by decide) dX3_readTry_13 (fun h20 hv20 hv20e => ?_)
  have pr20 : PR h → PR h20 := fun z => by rw [hv20e]; exact PR.put hv5 (pr5 z) (by omega)
  have fx20 : FX KC0 h h20 := FX.pI fx5 hv20e (by unfold KC0; omega)
  have k21 := bd_e k16 (st_I hv20e e19)
  refine go_aload_n (pc := 16) rfl dX3_readTry_16 ?_
  refine go_iload_n (pc := 17) rfl dX3_readTry_17 ?_
  refine go_iconst (pc := 18) (v := 0) (by decide) dX3_readTry_18 ?_
  have g22 : (0 : Int) ≤ (h20.2.1 34 2).toInt := (hv20.2.1 34 2).1
  have g23 : (h20.2.1 34 2).toInt ≤ 500 := (hv20.2.1 34 2).2
  have g24 : (0 : Int) ≤ (h20.2.1 34 7).toInt := (hv20.2.1 34 7).1
  have g25 : (h20.2.1 34 7).toInt ≤ 7 := (hv20.2.1 34 7).2
  have g26 : (h20.2.1 34 7).toInt = u15.toInt := by rw [← (show u15 = h20.2.1 34 7 from (show u15 = h20.2.1 34 7 from by rw [hv20e]; exact (g_iI rfl u15w.symm).symm))] <;> exact (ti_rfl u15)
  have g27 : (h20.2.1 34 2).toInt = (u13.toInt + 1) := by rw [← (show v18 = h20.2.1 34 2 from (show v18 = h20.2.1 34 2 from by rw [hv20e]; exact g_iS.symm))] <;> exact e19
  refine go_invV (pc := 19) (sl := 0) (s_X3_openBlock_f l (d + 0) hv20 v11 (by rw [show (v11 : Int32).toInt = v11.toInt from (ti_rfl v11)]; omega) (by rw [show (v11 : Int32).toInt = v11.toInt from (ti_rfl v11)]; omega) 0 (by rw [show (0 : Int32).toInt = 0 from (ti_c (v := 0) (a := 0) (by decide))]; omega) (by rw [show (0 : Int32).toInt = 0 from (ti_c (v := 0) (a := 0) (by decide))]; omega)) mL_X3_118 iM_X3_openBlock sM_X3_openBlock (hv20.sh rfl) rfl rfl rfl (Nat.le_of_ble_eq_true rfl) (show d + 0 + 2 + 1 ≤ d + 3 by omega) (show 8 + (3 + 11) + 40 * (d + 0 + 2) ≤ 40 * (d + 3) by omega) (g_c0 hv20.ln) (Nat.le_of_ble_eq_true rfl) dX3_readTry_19 ?_
  intro r h28 hq _
  obtain ⟨rfl, hv28, f29, f30, pt28⟩ := hq
  have pr28 : PR h → PR h28 := fun z => pt28 (pr20 z)
  try rw [show (0 : Int32).toInt = 0 from (ti_c (v := 0) (a := 0) (by decide))] at f29
  try rw [show (0 : Int32).toInt = 0 from (ti_c (v := 0) (a := 0) (by decide))] at f30
  have fx28 : FX KC0 h h28 := FX.tr fx20 f30
  have k31 := bd_e k21 f29.symm
  obtain ⟨u32, u32w⟩ : ∃ v : Int32, v = h28.2.1 34 2 := ⟨_, rfl⟩
  have u32e : (h28.2.1 34 2).toInt = u32.toInt := by rw [u32w]
  have u32l : 0 ≤ u32.toInt := by rw [u32w]; exact (hv28.2.1 34 2).1
  have u32u : u32.toInt ≤ 500 := by rw [u32w]; exact (hv28.2.1 34 2).2
  have k33 := k31
  obtain ⟨u34, u34w⟩ : ∃ v : Int32, v = h28.2.1 34 7 := ⟨_, rfl⟩
  have u34e : (h28.2.1 34 7).toInt = u34.toInt := by rw [u34w]
  have u34l : 0 ≤ u34.toInt := by rw [u34w]; exact (hv28.2.1 34 7).1
  have u34u : u34.toInt ≤ 7 := by rw [u34w]; exact (hv28.2.1 34 7).2
  have k35 := k33
  exact gi_vret (pc := 22) ⟨rfl, hv28, (k35.symm.trans kf), fx28, pr28⟩ hv28 dX3_readTry_22
def f_X0_add (s : ST) (c1 : Nat) (a2 : Int) (a3 : Int) (a4 : Int) (a5 : Int) : ST × Int :=
  bd (s.1 c1 0) fun v4 => bd (s.1 c1 0) fun v6 => bd (sI s c1 0 ((v6 + 1))) fun s10 => bd (sI s10 (c1 + 2) (v4).toNat a2) fun s12 => bd (sI s12 (c1 + 3) (v4).toNat a3) fun s14 => bd (sI s14 (c1 + 4) (v4).toNat a4) fun s16 => bd (sI s16 (c1 + 5) (v4).toNat a5) fun s18 => bd (sI s18 (c1 + 6) (v4).toNat (-1)) fun s20 => bd (sI s20 (c1 + 7) (v4).toNat (-2)) fun s22 => bd (sI s22 (c1 + 8) (v4).toNat (-1)) fun s24 => bd (sI s24 (c1 + 9) (v4).toNat (-1)) fun s26 => bd (sI s26 (c1 + 10) (v4).toNat (-1)) fun s28 => (s28, v4)
set_option maxHeartbeats 4000000 in
set_option maxRecDepth 100000 in
theorem s_X0_add_f (l : Launch) (d : Nat) {P : PP} {h : HP} (hv : Iv P h) (c1 : Nat) (hc1 : c1 = 2 ∨ c1 = 18) (a2 : Int32) (a2l : 0 ≤ a2.toInt) (a2u : a2.toInt ≤ 5) (a3 : Int32) (a3l : -1 ≤ a3.toInt) (a3u : a3.toInt ≤ 4) (a4 : Int32) (a5 : Int32) (hk : ¬ a2.toInt = 1) (hs : (h.2.1 c1 0).toInt ≤ 39) : Mt l yX0_add cX0_add 6 (some .int) (d + 1) [.ref c1, .int a2, .int a3, .int a4, .int a5] h 0 0 (fun r h' => ∃ v : Int32, r = some (.int v) ∧ 0 ≤ v.toInt ∧ v.toInt ≤ 39 ∧ (∃ Q : PP, Iv Q h' ∧ ((0 : Int) = 0) ∧ Q.1 = P.1 ∧ Q.2.1 = P.2.1 ∧ Q.2.2.2 = P.2.2.2) ∧ ((h'.2.1 34 2).toInt = (h.2.1 34 2).toInt) ∧ ((h'.2.1 34 1).toInt = (h.2.1 34 1).toInt) ∧ ((h'.2.1 34 7).toInt = (h.2.1 34 7).toInt) ∧ ((st h', v.toInt) = f_X0_add (st h) c1 a2.toInt a3.toInt a4.toInt a5.toInt) ∧ (FX KC0 h h') ∧ (PR h → PR h')) := by
  refine Mt_iv hv (by decide) (Nat.le_of_ble_eq_true rfl) ?_
  show Go l RX0 cX0_add 6 (g_rm (d + 1) 0 0) "add" (some .int) 117 0 0 (fun _ _ => True) (fun r h' => ∃ v : Int32, r = some (.int v) ∧ 0 ≤ v.toInt ∧ v.toInt ≤ 39 ∧ (∃ Q : PP, Iv Q h' ∧ ((0 : Int) = 0) ∧ Q.1 = P.1 ∧ Q.2.1 = P.2.1 ∧ Q.2.2.2 = P.2.2.2) ∧ ((h'.2.1 34 2).toInt = (h.2.1 34 2).toInt) ∧ ((h'.2.1 34 1).toInt = (h.2.1 34 1).toInt) ∧ ((h'.2.1 34 7).toInt = (h.2.1 34 7).toInt) ∧ ((st h', v.toInt) = f_X0_add (st h) c1 a2.toInt a3.toInt a4.toInt a5.toInt) ∧ (FX KC0 h h') ∧ (PR h → PR h')) 0 0 [(0, .ref c1), (1, .int a2), (2, .int a3), (3, .int a4), (4, .int a5)] [] h
  have pr : PR h → PR h := id
  have fx : FX KC0 h h := FX.rfl
  obtain ⟨fin, kf⟩ : ∃ z, z = f_X0_add (st h) c1 a2.toInt a3.toInt a4.toInt a5.toInt := ⟨_, _root_.rfl⟩
  have k0 := kf
  unfold f_X0_add at k0
  obtain ⟨u34_2, u34_2w⟩ : ∃ v : Int32, v = h.2.1 34 2 := ⟨_, rfl⟩
  have u34_2e : (h.2.1 34 2).toInt = u34_2.toInt := by rw [u34_2w]
  have u34_2l : 0 ≤ u34_2.toInt := by rw [u34_2w]; exact (hv.2.1 34 2).1
  have u34_2u : u34_2.toInt ≤ 500 := by rw [u34_2w]; exact (hv.2.1 34 2).2
  obtain ⟨u34_1, u34_1w⟩ : ∃ v : Int32, v = h.2.1 34 1 := ⟨_, rfl⟩
  have u34_1e : (h.2.1 34 1).toInt = u34_1.toInt := by rw [u34_1w]
  have u34_1l : 0 ≤ u34_1.toInt := by rw [u34_1w]; exact (hv.2.1 34 1).1
  have u34_1u : u34_1.toInt ≤ 500 := by rw [u34_1w]; exact (hv.2.1 34 1).2
  obtain ⟨u34_7, u34_7w⟩ : ∃ v : Int32, v = h.2.1 34 7 := ⟨_, rfl⟩
  have u34_7e : (h.2.1 34 7).toInt = u34_7.toInt := by rw [u34_7w]
  have u34_7l : 0 ≤ u34_7.toInt := by rw [u34_7w]; exact (hv.2.1 34 7).1
  have u34_7u : u34_7.toInt ≤ 7 := by rw [u34_7w]; exact (hv.2.1 34 7).2
  have k1 := k0
  have k2 := k1
  have k3 := k2
  refine go_aload_n (pc := 0) rfl dX0_add_0 ?_
  refine gi_get (pc := 1) (lo := 0) (hi := 40) hv fL_X0_9 (by rcases hc1 with rfl | rfl <;> rfl) (Nat.le_of_ble_eq_true rfl) rfl (by rcases hc1 with rfl | rfl <;> rfl) dX0_add_1 (fun v4 v4l v4u v4w => ?_)
  have k5 := bd_e k3 (congrArg Int32.toInt v4w.symm)
  have ksv4 : v4.toInt ≤ 39 := by rw [v4w]; exact hs
  refine go_istore (pc := 4) (Nat.le_of_ble_eq_true rfl) dX0_add_4 (go_lv (lv2 := [(0, .ref c1), (1, .int a2), (2, .int a3), (3, .int a4), (4, .int a5), (5, .int v4)]) rfl ?_)
  refine go_aload_n (pc := 6) rfl dX0_add_6 ?_
  refine go_dup (pc := 7) rfl dX0_add_7 ?_
  refine gi_get (pc := 8) (lo := 0) (hi := 40) hv fL_X0_9 (by rcases hc1 with rfl | rfl <;> rfl) (Nat.le_of_ble_eq_true rfl) rfl (by rcases hc1 with rfl | rfl <;> rfl) dX0_add_8 (fun v6 v6l v6u v6w => ?_)
  have k7 := bd_e k5 (congrArg Int32.toInt v6w.symm)
  have ksv6 : v6.toInt ≤ 39 := by rw [v6w]; exact hs
  refine go_iconst (pc := 11) (v := 1) (by decide) dX0_add_11 ?_
  refine gf_iadd (pc := 12) (ti_rfl v6) (ti_c (v := 1) (a := 1) (by decide)) (by omega) (by omega) dX0_add_12 (fun v8 e9 => ?_)
  refine gi_put (pc := 13) (lo := 0) (hi := 40) hv e9 (fP_X0_9 _) (by rcases hc1 with rfl | rfl <;> rfl) (Nat.le_of_ble_eq_true rfl) rfl (by rcases hc1 with rfl | rfl <;> rfl) (by omega) (by omega) rfl rfl (by rcases hc1 with rfl | rfl <;> decide) (by rcases hc1 with rfl | rfl <;> decide) (by rcases hc1 with rfl | rfl <;> decide) (by rcases hc1 with rfl | rfl <;> decide) dX0_add_13 (fun h10 hv10 hv10e => ?_)
  have pr10 : PR h → PR h10 := fun z => by rw [hv10e]; exact PR.put hv (pr z) (by omega)
  have fx10 : FX KC0 h h10 := FX.pI fx hv10e (by unfold KC0; omega)
  have k11 := bd_e k7 (st_I hv10e e9)
  refine go_aload_n (pc := 16) rfl dX0_add_16 ?_
  refine gi_getF (pc := 17) (q := c1 + 2) hv10 fL_X0_32 (by rcases hc1 with rfl | rfl <;> rfl) (Nat.le_of_ble_eq_true rfl) rfl (by rcases hc1 with rfl | rfl <;> exact hv10.rf (by decide)) dX0_add_17 ?_
  refine go_iload (pc := 20) rfl dX0_add_20 ?_
  refine go_iload_n (pc := 22) rfl dX0_add_22 ?_
  refine gi_kst (pc := 23) hv10 hc1 (ti_rfl v4) (ti_rfl a2) (by omega) (by omega) (by omega) (by omega) (by omega) dX0_add_23 (fun h12 hv12 hv12e => ?_)
  have pr12 : PR h → PR h12 := fun z => by rw [hv12e]; exact PR.put hv10 (pr10 z) (by omega)
  have fx12 : FX KC0 h h12 := FX.pI fx10 hv12e (by unfold KC0; omega)
  have k13 := bd_e k11 (st_I hv12e (ti_rfl a2))
  refine go_aload_n (pc := 24) rfl dX0_add_24 ?_
  refine gi_getF (pc := 25) (q := c1 + 3) hv12 fL_X0_35 (by rcases hc1 with rfl | rfl <;> rfl) (Nat.le_of_ble_eq_true rfl) rfl (by rcases hc1 with rfl | rfl <;> exact hv12.rf (by decide)) dX0_add_25 ?_
  refine go_iload (pc := 28) rfl dX0_add_28 ?_
  refine go_iload_n (pc := 30) rfl dX0_add_30 ?_
  refine gi_iast (pc := 31) (lo := -1) (hi := 4) (len := 40) hv12 (ti_rfl v4) (ti_rfl a3) (by rcases hc1 with rfl | rfl <;> rfl) (by omega) (by omega) (fun _ => by rcases hc1 with rfl | rfl <;> rfl) (by omega) (by omega) (by rcases hc1 with rfl | rfl <;> decide) dX0_add_31 (fun h14 hv14 hv14e => ?_)
  have pr14 : PR h → PR h14 := fun z => by rw [hv14e]; exact PR.put hv12 (pr12 z) (by omega)
  have fx14 : FX KC0 h h14 := FX.pI fx12 hv14e (by unfold KC0; omega)
  have k15 := bd_e k13 (st_I hv14e (ti_rfl a3))
  refine go_aload_n (pc := 32) rfl dX0_add_32 ?_
  refine gi_getF (pc := 33) (q := c1 + 4) hv14 fL_X0_38 (by rcases hc1 with rfl | rfl <;> rfl) (Nat.le_of_ble_eq_true rfl) rfl (by rcases hc1 with rfl | rfl <;> exact hv14.rf (by decide)) dX0_add_33 ?_
  refine go_iload (pc := 36) rfl dX0_add_36 ?_
  refine go_iload_n (pc := 38) rfl dX0_add_38 ?_
  refine gi_iast (pc := 39) (lo := -2147483648) (hi := 2147483647) (len := 40) hv14 (ti_rfl v4) (ti_rfl a4) (by rcases hc1 with rfl | rfl <;> rfl) (by omega) (by omega) (fun _ => by rcases hc1 with rfl | rfl <;> rfl) (ti_ge (ti_rfl a4)) (ti_le2 (ti_rfl a4)) (by rcases hc1 with rfl | rfl <;> decide) dX0_add_39 (fun h16 hv16 hv16e => ?_)
  have pr16 : PR h → PR h16 := fun z => by rw [hv16e]; exact PR.put hv14 (pr14 z) (by omega)
  have fx16 : FX KC0 h h16 := FX.pI fx14 hv16e (by unfold KC0; omega)
  have k17 := bd_e k15 (st_I hv16e (ti_rfl a4))
  refine go_aload_n (pc := 40) rfl dX0_add_40 ?_
  refine gi_getF (pc := 41) (q := c1 + 5) hv16 fL_X0_41 (by rcases hc1 with rfl | rfl <;> rfl) (Nat.le_of_ble_eq_true rfl) rfl (by rcases hc1 with rfl | rfl <;> exact hv16.rf (by decide)) dX0_add_41 ?_
  refine go_iload (pc := 44) rfl dX0_add_44 ?_
  refine go_iload (pc := 46) rfl dX0_add_46 ?_
  refine gi_iast (pc := 48) (lo := -2147483648) (hi := 2147483647) (len := 40) hv16 (ti_rfl v4) (ti_rfl a5) (by rcases hc1 with rfl | rfl <;> rfl) (by omega) (by omega) (fun _ => by rcases hc1 with rfl | rfl <;> rfl) (ti_ge (ti_rfl a5)) (ti_le2 (ti_rfl a5)) (by rcases hc1 with rfl | rfl <;> decide) dX0_add_48 (fun h18 hv18 hv18e => ?_)
  have pr18 : PR h → PR h18 := fun z => by rw [hv18e]; exact PR.put hv16 (pr16 z) (by omega)
  have fx18 : FX KC0 h h18 := FX.pI fx16 hv18e (by unfold KC0; omega)
  have k19 := bd_e k17 (st_I hv18e (ti_rfl a5))
  refine go_aload_n (pc := 49) rfl dX0_add_49 ?_
  refine gi_getF (pc := 50) (q := c1 + 6) hv18 fL_X0_44 (by rcases hc1 with rfl | rfl <;> rfl) (Nat.le_of_ble_eq_true rfl) rfl (by rcases hc1 with rfl | rfl <;> exact hv18.rf (by decide)) dX0_add_50 ?_
  refine go_iload (pc := 53) rfl dX0_add_53 ?_
  refine go_iconst (pc := 55) (v := (-1)) (by decide) dX0_add_55 ?_
  refine gi_iast (pc := 56) (lo := -1) (hi := 9) (len := 40) hv18 (ti_rfl v4) (ti_c (v := (-1)) (a := (-1)) (by decide)) (by rcases hc1 with rfl | rfl <;> rfl) (by omega) (by omega) (fun _ => by rcases hc1 with rfl | rfl <;> rfl) (by omega) (by omega) (by rcases hc1 with rfl | rfl <;> decide) dX0_add_56 (fun h20 hv20 hv20e => ?_)
  have pr20 : PR h → PR h20 := fun z => by rw [hv20e]; exact PR.put hv18 (pr18 z) (by omega)
  have fx20 : FX KC0 h h20 := FX.pI fx18 hv20e (by unfold KC0; omega)
  have k21 := bd_e k19 (st_I hv20e (ti_c (v := (-1)) (a := (-1)) (by decide)))
  refine go_aload_n (pc := 57) rfl dX0_add_57 ?_
  refine gi_getF (pc := 58) (q := c1 + 7) hv20 fL_X0_47 (by rcases hc1 with rfl | rfl <;> rfl) (Nat.le_of_ble_eq_true rfl) rfl (by rcases hc1 with rfl | rfl <;> exact hv20.rf (by decide)) dX0_add_58 ?_
  refine go_iload (pc := 61) rfl dX0_add_61 ?_
  refine go_bipush (pc := 63) (v := (-2)) (by decide) dX0_add_63 ?_
  have kk : (h20.2.1 (c1 + 2) (v4.toInt).toNat) = a2 := by rw [hv20e, hv18e, hv16e, hv14e, hv12e]; rcases hc1 with rfl | rfl <;> simp [hI]
  have kk2 : (a2 : Int32).toInt = a2.toInt := (ti_rfl a2)
  refine gi_cst (pc := 65) hv20 hc1 (ti_rfl v4) (ti_c (v := (-2)) (a := (-2)) (by decide)) (by omega) (by omega) (by omega) (by omega) (Or.inr (by rw [kk]; omega)) dX0_add_65 (fun h22 hv22 hv22e => ?_)
  have pr22 : PR h → PR h22 := fun z => by rw [hv22e]; exact PR.put hv20 (pr20 z) (by omega)
  have fx22 : FX KC0 h h22 := FX.pI fx20 hv22e (by unfold KC0; omega)
  have k23 := bd_e k21 (st_I hv22e (ti_c (v := (-2)) (a := (-2)) (by decide)))
  refine go_aload_n (pc := 66) rfl dX0_add_66 ?_
  refine gi_getF (pc := 67) (q := c1 + 8) hv22 fL_X0_50 (by rcases hc1 with rfl | rfl <;> rfl) (Nat.le_of_ble_eq_true rfl) rfl (by rcases hc1 with rfl | rfl <;> exact hv22.rf (by decide)) dX0_add_67 ?_
  refine go_iload (pc := 70) rfl dX0_add_70 ?_
  refine go_iconst (pc := 72) (v := (-1)) (by decide) dX0_add_72 ?_
  refine gi_iast (pc := 73) (lo := -2147483648) (hi := 2147483647) (len := 40) hv22 (ti_rfl v4) (ti_c (v := (-1)) (a := (-1)) (by decide)) (by rcases hc1 with rfl | rfl <;> rfl) (by omega) (by omega) (fun _ => by rcases hc1 with rfl | rfl <;> rfl) (ti_ge (ti_c (v := (-1)) (a := (-1)) (by decide))) (ti_le2 (ti_c (v := (-1)) (a := (-1)) (by decide))) (by rcases hc1 with rfl | rfl <;> decide) dX0_add_73 (fun h24 hv24 hv24e => ?_)
  have pr24 : PR h → PR h24 := fun z => by rw [hv24e]; exact PR.put hv22 (pr22 z) (by omega)
  have fx24 : FX KC0 h h24 := FX.pI fx22 hv24e (by unfold KC0; omega)
  have k25 := bd_e k23 (st_I hv24e (ti_c (v := (-1)) (a := (-1)) (by decide)))
  refine go_aload_n (pc := 74) rfl dX0_add_74 ?_
  refine gi_getF (pc := 75) (q := c1 + 9) hv24 fL_X0_53 (by rcases hc1 with rfl | rfl <;> rfl) (Nat.le_of_ble_eq_true rfl) rfl (by rcases hc1 with rfl | rfl <;> exact hv24.rf (by decide)) dX0_add_75 ?_
  refine go_iload (pc := 78) rfl dX0_add_78 ?_
  refine go_iconst (pc := 80) (v := (-1)) (by decide) dX0_add_80 ?_
  refine gi_iast (pc := 81) (lo := -2147483648) (hi := 2147483647) (len := 40) hv24 (ti_rfl v4) (ti_c (v := (-1)) (a := (-1)) (by decide)) (by rcases hc1 with rfl | rfl <;> rfl) (by omega) (by omega) (fun _ => by rcases hc1 with rfl | rfl <;> rfl) (ti_ge (ti_c (v := (-1)) (a := (-1)) (by decide))) (ti_le2 (ti_c (v := (-1)) (a := (-1)) (by decide))) (by rcases hc1 with rfl | rfl <;> decide) dX0_add_81 (fun h26 hv26 hv26e => ?_)
  have pr26 : PR h → PR h26 := fun z => by rw [hv26e]; exact PR.put hv24 (pr24 z) (by omega)
  have fx26 : FX KC0 h h26 := FX.pI fx24 hv26e (by unfold KC0; omega)
  have k27 := bd_e k25 (st_I hv26e (ti_c (v := (-1)) (a := (-1)) (by decide)))
  refine go_aload_n (pc := 82) rfl dX0_add_82 ?_
  refine gi_getF (pc := 83) (q := c1 + 10) hv26 fL_X0_56 (by rcases hc1 with rfl | rfl <;> rfl) (Nat.le_of_ble_eq_true rfl) rfl (by rcases hc1 with rfl | rfl <;> exact hv26.rf (by decide)) dX0_add_83 ?_
  refine go_iload (pc := 86) rfl dX0_add_86 ?_
  refine go_iconst (pc := 88) (v := (-1)) (by decide) dX0_add_88 ?_
  refine gi_iast (pc := 89) (lo := -2147483648) (hi := 2147483647) (len := 40) hv26 (ti_rfl v4) (ti_c (v := (-1)) (a := (-1)) (by decide)) (by rcases hc1 with rfl | rfl <;> rfl) (by omega) (by omega) (fun _ => by rcases hc1 with rfl | rfl <;> rfl) (ti_ge (ti_c (v := (-1)) (a := (-1)) (by decide))) (ti_le2 (ti_c (v := (-1)) (a := (-1)) (by decide))) (by rcases hc1 with rfl | rfl <;> decide) dX0_add_89 (fun h28 hv28 hv28e => ?_)
  have pr28 : PR h → PR h28 := fun z => by rw [hv28e]; exact PR.put hv26 (pr26 z) (by omega)
  have fx28 : FX KC0 h h28 := FX.pI fx26 hv28e (by unfold KC0; omega)
  have k29 := bd_e k27 (st_I hv28e (ti_c (v := (-1)) (a := (-1)) (by decide)))
  refine go_iload (pc := 90) rfl dX0_add_90 ?_
  have g30 : (0 : Int) ≤ (h28.2.1 34 1).toInt := (hv28.2.1 34 1).1
  have g31 : (h28.2.1 34 1).toInt ≤ 500 := (hv28.2.1 34 1).2
  have g32 : (0 : Int) ≤ (h28.2.1 34 2).toInt := (hv28.2.1 34 2).1
  have g33 : (h28.2.1 34 2).toInt ≤ 500 := (hv28.2.1 34 2).2
  have g34 : (0 : Int) ≤ (h28.2.1 34 7).toInt := (hv28.2.1 34 7).1
  have g35 : (h28.2.1 34 7).toInt ≤ 7 := (hv28.2.1 34 7).2
  have g36 : (h28.2.1 34 2).toInt = u34_2.toInt := by rw [← (show u34_2 = h28.2.1 34 2 from (show u34_2 = h28.2.1 34 2 from by rw [hv28e]; exact (g_iIc (by omega) (by decide) (show u34_2 = h26.2.1 34 2 from by rw [hv26e]; exact (g_iIc (by omega) (by decide) (show u34_2 = h24.2.1 34 2 from by rw [hv24e]; exact (g_iIc (by omega) (by decide) (show u34_2 = h22.2.1 34 2 from by rw [hv22e]; exact (g_iIc (by omega) (by decide) (show u34_2 = h20.2.1 34 2 from by rw [hv20e]; exact (g_iIc (by omega) (by decide) (show u34_2 = h18.2.1 34 2 from by rw [hv18e]; exact (g_iIc (by omega) (by decide) (show u34_2 = h16.2.1 34 2 from by rw [hv16e]; exact (g_iIc (by omega) (by decide) (show u34_2 = h14.2.1 34 2 from by rw [hv14e]; exact (g_iIc (by omega) (by decide) (show u34_2 = h12.2.1 34 2 from by rw [hv12e]; exact (g_iIc (by omega) (by decide) (show u34_2 = h10.2.1 34 2 from by rw [hv10e]; exact (g_iIc (by omega) (by decide) u34_2w.symm).symm).symm).symm).symm).symm).symm).symm).symm).symm).symm).symm).symm).symm).symm).symm).symm).symm).symm).symm))] <;> exact (ti_rfl u34_2)
  have g37 : (h28.2.1 34 1).toInt = u34_1.toInt := by rw [← (show u34_1 = h28.2.1 34 1 from (show u34_1 = h28.2.1 34 1 from by rw [hv28e]; exact (g_iIc (by omega) (by decide) (show u34_1 = h26.2.1 34 1 from by rw [hv26e]; exact (g_iIc (by omega) (by decide) (show u34_1 = h24.2.1 34 1 from by rw [hv24e]; exact (g_iIc (by omega) (by decide) (show u34_1 = h22.2.1 34 1 from by rw [hv22e]; exact (g_iIc (by omega) (by decide) (show u34_1 = h20.2.1 34 1 from by rw [hv20e]; exact (g_iIc (by omega) (by decide) (show u34_1 = h18.2.1 34 1 from by rw [hv18e]; exact (g_iIc (by omega) (by decide) (show u34_1 = h16.2.1 34 1 from by rw [hv16e]; exact (g_iIc (by omega) (by decide) (show u34_1 = h14.2.1 34 1 from by rw [hv14e]; exact (g_iIc (by omega) (by decide) (show u34_1 = h12.2.1 34 1 from by rw [hv12e]; exact (g_iIc (by omega) (by decide) (show u34_1 = h10.2.1 34 1 from by rw [hv10e]; exact (g_iIc (by omega) (by decide) u34_1w.symm).symm).symm).symm).symm).symm).symm).symm).symm).symm).symm).symm).symm).symm).symm).symm).symm).symm).symm).symm))] <;> exact (ti_rfl u34_1)
  have g38 : (h28.2.1 34 7).toInt = u34_7.toInt := by rw [← (show u34_7 = h28.2.1 34 7 from (show u34_7 = h28.2.1 34 7 from by rw [hv28e]; exact (g_iIc (by omega) (by decide) (show u34_7 = h26.2.1 34 7 from by rw [hv26e]; exact (g_iIc (by omega) (by decide) (show u34_7 = h24.2.1 34 7 from by rw [hv24e]; exact (g_iIc (by omega) (by decide) (show u34_7 = h22.2.1 34 7 from by rw [hv22e]; exact (g_iIc (by omega) (by decide) (show u34_7 = h20.2.1 34 7 from by rw [hv20e]; exact (g_iIc (by omega) (by decide) (show u34_7 = h18.2.1 34 7 from by rw [hv18e]; exact (g_iIc (by omega) (by decide) (show u34_7 = h16.2.1 34 7 from by rw [hv16e]; exact (g_iIc (by omega) (by decide) (show u34_7 = h14.2.1 34 7 from by rw [hv14e]; exact (g_iIc (by omega) (by decide) (show u34_7 = h12.2.1 34 7 from by rw [hv12e]; exact (g_iIc (by omega) (by decide) (show u34_7 = h10.2.1 34 7 from by rw [hv10e]; exact (g_iIc (by omega) (by decide) u34_7w.symm).symm).symm).symm).symm).symm).symm).symm).symm).symm).symm).symm).symm).symm).symm).symm).symm).symm).symm).symm))] <;> exact (ti_rfl u34_7)
  exact gi_iret (pc := 92) (ti_rfl v4) ⟨_, rfl, (by rw [show (v4 : Int32).toInt = v4.toInt from (ti_rfl v4)]; omega), (by rw [show (v4 : Int32).toInt = v4.toInt from (ti_rfl v4)]; omega), ⟨((P.1, P.2.1, h12.2.1, P.2.2.2).1, (P.1, P.2.1, h12.2.1, P.2.2.2).2.1, h22.2.1, (P.1, P.2.1, h12.2.1, P.2.2.2).2.2.2), hv28, (by show (0 : Int) = 0; omega), rfl, rfl, rfl⟩, (by omega), (by omega), (by omega), (k29.symm.trans kf), fx28, pr28⟩ hv28 dX0_add_92
def f_X7_bit (s : ST) (a1 : Int) : Int64 :=
  bd (o_lshl (1 : Int64) a1) fun v1 => v1
set_option maxHeartbeats 4000000 in
set_option maxRecDepth 100000 in
theorem s_X7_bit_f (l : Launch) (d : Nat) {P : PP} {h : HP} (hv : Iv P h) (a1 : Int32) : Mt l yX7_bit cX7_bit 1 (some .long) (d + 1) [.int a1] h 0 0 (fun r h' => ∃ v : Int64, r = some (.long v) ∧ h = h' ∧ (v = f_X7_bit (st h) a1.toInt)) := by
  refine Mt_iv hv (by decide) (Nat.le_of_ble_eq_true rfl) ?_
  show Go l RX7 cX7_bit 1 (g_rm (d + 1) 0 0) "bit" (some .long) 117 0 0 (fun _ _ => True) (fun r h' => ∃ v : Int64, r = some (.long v) ∧ h = h' ∧ (v = f_X7_bit (st h) a1.toInt)) 0 0 [(0, .int a1)] [] h
  obtain ⟨fin, kf⟩ : ∃ z, z = f_X7_bit (st h) a1.toInt := ⟨_, _root_.rfl⟩
  have k0 := kf
  unfold f_X7_bit at k0
  refine go_lconst (pc := 0) (v := 1) (by decide) dX7_bit_0 ?_
  refine go_iload_n (pc := 1) rfl dX7_bit_1 ?_
  refine gx_lshl (pc := 2) dX7_bit_2 (fun v1 v1x => ?_)
  have k2 := bd_e k0 (so_lshl (ti_rfl a1) v1x)
  exact gi_lret (pc := 3) ⟨_, rfl, rfl, (k2.symm.trans kf)⟩ hv dX7_bit_3
def f_X7_isField (s : ST) (a1 : Int) : Int :=
  if a1 < 6 then (0) else (1)
set_option maxHeartbeats 4000000 in
set_option maxRecDepth 100000 in
theorem s_X7_isField_f (l : Launch) (d : Nat) {P : PP} {h : HP} (hv : Iv P h) (a1 : Int32) : Mt l yX7_isField cX7_isField 1 (some .boolean) (d + 1) [.int a1] h 0 0 (fun r h' => ∃ v : Int32, r = some (.int v) ∧ 0 ≤ v.toInt ∧ v.toInt ≤ 1 ∧ h = h' ∧ (v.toInt = 1 → 6 ≤ a1.toInt) ∧ (v.toInt = 0 → a1.toInt ≤ 5) ∧ (v.toInt = f_X7_isField (st h) a1.toInt)) := by
  refine Mt_iv hv (by decide) (Nat.le_of_ble_eq_true rfl) ?_
  show Go l RX7 cX7_isField 1 (g_rm (d + 1) 0 0) "isField" (some .boolean) 117 0 0 (fun _ _ => True) (fun r h' => ∃ v : Int32, r = some (.int v) ∧ 0 ≤ v.toInt ∧ v.toInt ≤ 1 ∧ h = h' ∧ (v.toInt = 1 → 6 ≤ a1.toInt) ∧ (v.toInt = 0 → a1.toInt ≤ 5) ∧ (v.toInt = f_X7_isField (st h) a1.toInt)) 0 0 [(0, .int a1)] [] h
  obtain ⟨fin, kf⟩ : ∃ z, z = f_X7_isField (st h) a1.toInt := ⟨_, _root_.rfl⟩
  have k0 := kf
  unfold f_X7_isField at k0
  refine go_iload_n (pc := 0) rfl dX7_isField_0 ?_
  refine go_bipush (pc := 1) (v := 6) (by decide) dX7_isField_1 ?_
  refine gf_icmp_lt (pc := 3) (tgt := 10) (ti_rfl a1) (ti_c (v := 6) (a := 6) (by decide)) (by decide) dX7_isField_3 (fun q1 => ?_) (fun q1 => ?_)
  ·
    have k2 := if_t k0 q1
    refine go_iconst (pc := 10) (v := 0) (by decide) dX7_isField_10 ?_
    exact gi_zret (pc := 11) (ti_c (v := 0) (a := 0) (by decide)) (by omega) (by omega) ⟨_, rfl, (by rw [show (0 : Int32).toInt = 0 from (ti_c (v := 0) (a := 0) (by decide))]; omega), (by rw [show (0 : Int32).toInt = 0 from (ti_c (v := 0) (a := 0) (by decide))]; omega), rfl, (by rw [show (0 : Int32).toInt = 0 from (ti_c (v := 0) (a := 0) (by decide))]; omega), (by rw [show (0 : Int32).toInt = 0 from (ti_c (v := 0) (a := 0) (by decide))]; omega), (by rw [show (0 : Int32).toInt = 0 from (ti_c (v := 0) (a := 0) (by decide))]; exact k2.symm.trans kf)⟩ hv dX7_isField_11
  ·
    have k3 := if_f k0 (Int.not_lt.mpr q1)
    refine go_iconst (pc := 6) (v := 1) (by decide) dX7_isField_6 ?_
    refine go_goto (pc := 7) (tgt := 11) (by decide) dX7_isField_7 ?_
    exact gi_zret (pc := 11) (ti_c (v := 1) (a := 1) (by decide)) (by omega) (by omega) ⟨_, rfl, (by rw [show (1 : Int32).toInt = 1 from (ti_c (v := 1) (a := 1) (by decide))]; omega), (by rw [show (1 : Int32).toInt = 1 from (ti_c (v := 1) (a := 1) (by decide))]; omega), rfl, (by rw [show (1 : Int32).toInt = 1 from (ti_c (v := 1) (a := 1) (by decide))]; omega), (by rw [show (1 : Int32).toInt = 1 from (ti_c (v := 1) (a := 1) (by decide))]; omega), (by rw [show (1 : Int32).toInt = 1 from (ti_c (v := 1) (a := 1) (by decide))]; exact k3.symm.trans kf)⟩ hv dX7_isField_11
def f_X3_readCall (s : ST) (a2 : Int) (a3 : Int) : ST :=
  bd (s.1 34 2) fun u34_2 => bd (sI s 34 2 ((u34_2 + 1))) fun s7 => bd (s7.2.2 34 4) fun c9 => bd (sI (sI s7 (c9 + 2) (a2).toNat 1) (c9 + 7) (a2).toNat (a3 - 65)) fun s13 => bd (s13.2.2 34 4) fun c15 => bd (s13.2.1 c15 2) fun v17 => bd (f_X7_bit s13 a2) fun v21 => bd (o_lor v17 v21) fun v23 => bd (sL s13 c15 2 v23) fun s25 => bd (f_X3_take s25 40) fun s36 => bd (s36.2.2 34 4) fun c48 => bd2 (f_X3_readOperand s36) fun s59 v64 => bd (sI s59 (c48 + 9) (a2).toNat v64) fun s72 => bd (f_X3_take s72 44) fun s83 => bd (s83.2.2 34 4) fun c95 => bd2 (f_X3_readOperand s83) fun s106 v111 => bd (sI s106 (c95 + 10) (a2).toNat v111) fun s119 => bd (f_X3_take s119 41) fun s130 => s130
set_option maxHeartbeats 4000000 in
set_option maxRecDepth 100000 in
theorem s_X3_readCall_f (l : Launch) (d : Nat) {P : PP} {h : HP} (hv : Iv P h) (a2 : Int32) (a2l : 0 ≤ a2.toInt) (a2u : a2.toInt ≤ 39) (a3 : Int32) (a3l : 65 ≤ a3.toInt) (a3u : a3.toInt ≤ 69) (hp2 : (h.2.1 34 2).toInt ≤ 499) : Mt l yX3_readCall cX3_readCall 3 none (d + 4) [.ref 34, .int a2, .int a3] h 0 0 (fun r h' => r = none ∧ (∃ Q : PP, Iv Q h' ∧ ((0 : Int) = 0) ∧ Q.1 = P.1 ∧ Q.2.1 = P.2.1 ∧ Q.2.2.2 = P.2.2.2) ∧ ((h'.2.1 34 1).toInt = (h.2.1 34 1).toInt) ∧ ((h'.2.1 34 7).toInt = (h.2.1 34 7).toInt) ∧ (st h' = f_X3_readCall (st h) a2.toInt a3.toInt) ∧ (FX KC0 h h') ∧ (PR h → PR h')) := by
  refine Mt_iv hv (by decide) (Nat.le_of_ble_eq_true rfl) ?_
  show Go l RX3 cX3_readCall 3 (g_rm (d + 4) 0 0) "readCall" none 117 0 0 (fun _ _ => True) (fun r h' => r = none ∧ (∃ Q : PP, Iv Q h' ∧ ((0 : Int) = 0) ∧ Q.1 = P.1 ∧ Q.2.1 = P.2.1 ∧ Q.2.2.2 = P.2.2.2) ∧ ((h'.2.1 34 1).toInt = (h.2.1 34 1).toInt) ∧ ((h'.2.1 34 7).toInt = (h.2.1 34 7).toInt) ∧ (st h' = f_X3_readCall (st h) a2.toInt a3.toInt) ∧ (FX KC0 h h') ∧ (PR h → PR h')) 0 0 [(0, .ref 34), (1, .int a2), (2, .int a3)] [] h
  have pr : PR h → PR h := id
  have fx : FX KC0 h h := FX.rfl
  obtain ⟨fin, kf⟩ : ∃ z, z = f_X3_readCall (st h) a2.toInt a3.toInt := ⟨_, _root_.rfl⟩
  have k0 := kf
  unfold f_X3_readCall at k0
  obtain ⟨u34_2, u34_2w⟩ : ∃ v : Int32, v = h.2.1 34 2 := ⟨_, rfl⟩
  have u34_2e : (h.2.1 34 2).toInt = u34_2.toInt := by rw [u34_2w]
  have u34_2l : 0 ≤ u34_2.toInt := by rw [u34_2w]; exact (hv.2.1 34 2).1
  have u34_2u : u34_2.toInt ≤ 500 := by rw [u34_2w]; exact (hv.2.1 34 2).2
  obtain ⟨u34_1, u34_1w⟩ : ∃ v : Int32, v = h.2.1 34 1 := ⟨_, rfl⟩
  have u34_1e : (h.2.1 34 1).toInt = u34_1.toInt := by rw [u34_1w]
  have u34_1l : 0 ≤ u34_1.toInt := by rw [u34_1w]; exact (hv.2.1 34 1).1
  have u34_1u : u34_1.toInt ≤ 500 := by rw [u34_1w]; exact (hv.2.1 34 1).2
  obtain ⟨u34_7, u34_7w⟩ : ∃ v : Int32, v = h.2.1 34 7 := ⟨_, rfl⟩
  have u34_7e : (h.2.1 34 7).toInt = u34_7.toInt := by rw [u34_7w]
  have u34_7l : 0 ≤ u34_7.toInt := by rw [u34_7w]; exact (hv.2.1 34 7).1
  have u34_7u : u34_7.toInt ≤ 7 := by rw [u34_7w]; exact (hv.2.1 34 7).2
  have k1 := bd_e k0 (congrArg Int32.toInt u34_2w.symm)
  have k2 := k1
  have k3 := k2
  refine go_aload_n (pc := 0) rfl dX3_readCall_0 ?_
  refine go_dup (pc := 1) rfl dX3_readCall_1 ?_
  refine gi_get (pc := 2) (lo := 0) (hi := 500) hv fL_X3_19 rfl (Nat.le_of_ble_eq_true rfl) rfl rfl dX3_readCall_2 (fun v4 v4l v4u v4w => ?_)
  have v4r : u34_2 = h.2.1 34 2 := u34_2w
  have v4q : TI v4 u34_2.toInt := by rw [v4w.trans v4r.symm]; exact (ti_rfl u34_2)
  refine go_iconst (pc := 5) (v := 1) (by decide) dX3_readCall_5 ?_
  refine gf_iadd (pc := 6) v4q (ti_c (v := 1) (a := 1) (by decide)) (by omega) (by omega) dX3_readCall_6 (fun v5 e6 => ?_)
  refine gi_put (pc := 7) (lo := 0) (hi := 500) hv e6 (fP_X3_19 _) rfl (Nat.le_of_ble_eq_true rfl) rfl rfl (by omega) (by omega) rfl rfl (by decide) (by decide) (by decide) (by decide) dX3_readCall_7 (fun h7 hv7 hv7e => ?_)
  have pr7 : PR h → PR h7 := fun z => by rw [hv7e]; exact PR.put hv (pr z) (by omega)
  have fx7 : FX KC0 h h7 := FX.pI fx hv7e (by unfold KC0; omega)
  have k8 := bd_e k3 (st_I hv7e e6)
  refine go_aload_n (pc := 10) rfl dX3_readCall_10 ?_
  refine gi_getC (pc := 11) hv7 fL_X3_46 rfl (Nat.le_of_ble_eq_true rfl) rfl (by decide) dX3_readCall_11 (fun c9 hc9 fc9 => ?_)
  have k10 := bd_e k8 (st_c fc9)
  refine gi_getF (pc := 14) (q := c9 + 2) hv7 fL_X3_148 (by rcases hc9 with rfl | rfl <;> rfl) (Nat.le_of_ble_eq_true rfl) rfl (by rcases hc9 with rfl | rfl <;> exact hv7.rf (by decide)) dX3_readCall_14 ?_
  refine go_iload_n (pc := 17) rfl dX3_readCall_17 ?_
  refine go_iconst (pc := 18) (v := 1) (by decide) dX3_readCall_18 ?_
  have ei := (ti_rfl a2)
  have ex : TI 1 1 := ti_c (by decide)
  refine go_iast (pc := 19) (len := 40) (hv7.sh (by rcases hc9 with rfl | rfl <;> rfl)) (ti_in ei (by omega) (by omega)) dX3_readCall_19 ?_
  rw [ti_ix ei (by omega)]
  refine go_aload_n (pc := 20) rfl dX3_readCall_20 ?_
  refine go_getR (pc := 21) (v := .ref c9) fL_X3_46 (g_shI (hv7.sh rfl)) (Nat.le_of_ble_eq_true rfl) rfl (g_rI fc9) dX3_readCall_21 ?_
  refine go_getR (pc := 24) (v := .ref (c9 + 7)) fL_X3_196 (g_shI (hv7.sh (by rcases hc9 with rfl | rfl <;> rfl))) (Nat.le_of_ble_eq_true rfl) rfl (g_rI (by rcases hc9 with rfl | rfl <;> exact hv7.rf (by decide))) dX3_readCall_24 ?_
  refine go_iload_n (pc := 27) rfl dX3_readCall_27 ?_
  refine go_iload_n (pc := 28) rfl dX3_readCall_28 ?_
  refine go_bipush (pc := 29) (v := 65) (by decide) dX3_readCall_29 ?_
  refine gf_isub (pc := 31) (ti_rfl a3) (ti_c (v := 65) (a := 65) (by decide)) (by omega) (by omega) dX3_readCall_31 (fun v11 e12 => ?_)
  refine go_iast (pc := 32) (len := 40) (g_shI (hv7.sh (by rcases hc9 with rfl | rfl <;> rfl))) (ti_in ei (by omega) (by omega)) dX3_readCall_32 ?_
  rw [ti_ix ei (by omega)]
  obtain ⟨h13, hv13e⟩ : ∃ g : HP, g = hI (hI h7 (c9 + 2) (a2.toInt).toNat 1) (c9 + 7) (a2.toInt).toNat v11 := ⟨_, rfl⟩
  have hv13 := hv7.putKE (j := (a2.toInt).toNat) hc9 ex e12 (by omega) (by omega)
  rw [← hv13e] at hv13 ⊢
  have fx13 : FX KC0 h h13 := FX.pI2 fx7 hv13e (by unfold KC0; omega) (by unfold KC0; omega)
  have k14 := bd_e k10 (st_I2 hv13e ex e12)
  have pr13 : PR h → PR h13 := fun z => by rw [hv13e]; exact PR.put2 hv7 (pr7 z) (by omega) (by omega)
  refine go_aload_n (pc := 33) rfl dX3_readCall_33 ?_
  refine gi_getC (pc := 34) hv13 fL_X3_46 rfl (Nat.le_of_ble_eq_true rfl) rfl (by decide) dX3_readCall_34 (fun c15 hc15 fc15 => ?_)
  have k16 := bd_e k14 (st_c fc15)
  refine go_dup (pc := 37) rfl dX3_readCall_37 ?_
  refine gx_getL (pc := 38) hv13 fL_X3_199 (by rcases hc15 with rfl | rfl <;> rfl) (Nat.le_of_ble_eq_true rfl) rfl dX3_readCall_38 (fun v17 v17w => ?_)
  have k18 := bd_e k16 v17w.symm
  refine go_iload_n (pc := 41) rfl dX3_readCall_41 ?_
  refine go_invS (pc := 42) (sl := 0) (s_X7_bit_f l (d + 2) hv13 a2) mL_X3_203 iM_X7_bit rfl rfl (Nat.le_of_ble_eq_true rfl) (show d + 2 + 1 + 1 ≤ d + 4 by omega) (show 8 + (1 + 11) + 40 * (d + 2 + 1) ≤ 40 * (d + 4) by omega) (g_c0 hv13.ln) (Nat.le_of_ble_eq_true rfl) dX3_readCall_42 ?_
  intro r h19 hq _
  obtain ⟨v21, rfl, rfl, f20⟩ := hq
  have k22 := bd_e k18 f20.symm
  refine gx_lor (pc := 45) dX3_readCall_45 (fun v23 v23x => ?_)
  have k24 := bd_e k22 (so_lor v23x)
  refine gi_putL (pc := 46) hv13 (fP_X3_199 _) (by rcases hc15 with rfl | rfl <;> rfl) (Nat.le_of_ble_eq_true rfl) rfl rfl rfl dX3_readCall_46 (fun h25 hv25 hv25e => ?_)
  have pr25 : PR h → PR h25 := fun z => by rw [hv25e]; exact pr13 z
  have fx25 : FX KC0 h h25 := FX.pL fx13 hv25e (by unfold KC0; omega)
  have k26 := bd_e k24 (st_L hv25e)
  refine go_aload_n (pc := 49) rfl dX3_readCall_49 ?_
  refine go_bipush (pc := 50) (v := 40) (by decide) dX3_readCall_50 ?_
  have g27 : (0 : Int) ≤ (h25.2.1 34 1).toInt := (hv25.2.1 34 1).1
  have g28 : (h25.2.1 34 1).toInt ≤ 500 := (hv25.2.1 34 1).2
  have g29 : (0 : Int) ≤ (h25.2.1 34 2).toInt := (hv25.2.1 34 2).1
  have g30 : (h25.2.1 34 2).toInt ≤ 500 := (hv25.2.1 34 2).2
  have g31 : (0 : Int) ≤ (h25.2.1 34 7).toInt := (hv25.2.1 34 7).1
  have g32 : (h25.2.1 34 7).toInt ≤ 7 := (hv25.2.1 34 7).2
  have g33 : (h25.2.1 34 1).toInt = u34_1.toInt := by rw [← (show u34_1 = h25.2.1 34 1 from (show u34_1 = h25.2.1 34 1 from by rw [hv25e]; exact (show u34_1 = h13.2.1 34 1 from by rw [hv13e]; exact (g_iIc (by omega) (by decide) (g_iIc (by omega) (by decide) (show u34_1 = h7.2.1 34 1 from by rw [hv7e]; exact (g_iI rfl u34_1w.symm).symm).symm)).symm)))] <;> exact (ti_rfl u34_1)
  have g34 : (h25.2.1 34 7).toInt = u34_7.toInt := by rw [← (show u34_7 = h25.2.1 34 7 from (show u34_7 = h25.2.1 34 7 from by rw [hv25e]; exact (show u34_7 = h13.2.1 34 7 from by rw [hv13e]; exact (g_iIc (by omega) (by decide) (g_iIc (by omega) (by decide) (show u34_7 = h7.2.1 34 7 from by rw [hv7e]; exact (g_iI rfl u34_7w.symm).symm).symm)).symm)))] <;> exact (ti_rfl u34_7)
  have g35 : (h25.2.1 34 2).toInt = (u34_2.toInt + 1) := by rw [← (show v5 = h25.2.1 34 2 from (show v5 = h25.2.1 34 2 from by rw [hv25e]; exact (show v5 = h13.2.1 34 2 from by rw [hv13e]; exact (g_iIc (by omega) (by decide) (g_iIc (by omega) (by decide) (show v5 = h7.2.1 34 2 from by rw [hv7e]; exact g_iS.symm).symm)).symm)))] <;> exact e6
  refine go_invV (pc := 52) (sl := 0) (s_X3_take_f l (d + 1) hv25 40 (by rw [show (40 : Int32).toInt = 40 from (ti_c (v := 40) (a := 40) (by decide))]; omega) (by rw [show (40 : Int32).toInt = 40 from (ti_c (v := 40) (a := 40) (by decide))]; omega)) mL_X3_181 iM_X3_take sM_X3_take (hv25.sh rfl) rfl rfl rfl (Nat.le_of_ble_eq_true rfl) (show d + 1 + 2 + 1 ≤ d + 4 by omega) (show 8 + (2 + 11) + 40 * (d + 1 + 2) ≤ 40 * (d + 4) by omega) (g_c0 hv25.ln) (Nat.le_of_ble_eq_true rfl) dX3_readCall_52 ?_
  intro r h36 hq _
  obtain ⟨rfl, hv36, f37, f38, f39, f40, pt36⟩ := hq
  have pr36 : PR h → PR h36 := fun z => pt36 (pr25 z)
  try rw [show (40 : Int32).toInt = 40 from (ti_c (v := 40) (a := 40) (by decide))] at f37
  try rw [show (40 : Int32).toInt = 40 from (ti_c (v := 40) (a := 40) (by decide))] at f38
  try rw [show (40 : Int32).toInt = 40 from (ti_c (v := 40) (a := 40) (by decide))] at f39
  try rw [show (40 : Int32).toInt = 40 from (ti_c (v := 40) (a := 40) (by decide))] at f40
  have fx36 : FX KC0 h h36 := FX.tr fx25 f40
  have k41 := bd_e k26 f39.symm
  obtain ⟨u42, u42w⟩ : ∃ v : Int32, v = h36.2.1 34 1 := ⟨_, rfl⟩
  have u42e : (h36.2.1 34 1).toInt = u42.toInt := by rw [u42w]
  have u42l : 0 ≤ u42.toInt := by rw [u42w]; exact (hv36.2.1 34 1).1
  have u42u : u42.toInt ≤ 500 := by rw [u42w]; exact (hv36.2.1 34 1).2
  have k43 := k41
  obtain ⟨u44, u44w⟩ : ∃ v : Int32, v = h36.2.1 34 2 := ⟨_, rfl⟩
  have u44e : (h36.2.1 34 2).toInt = u44.toInt := by rw [u44w]
  have u44l : 0 ≤ u44.toInt := by rw [u44w]; exact (hv36.2.1 34 2).1
  have u44u : u44.toInt ≤ 500 := by rw [u44w]; exact (hv36.2.1 34 2).2
  have k45 := k43
  obtain ⟨u46, u46w⟩ : ∃ v : Int32, v = h36.2.1 34 7 := ⟨_, rfl⟩
  have u46e : (h36.2.1 34 7).toInt = u46.toInt := by rw [u46w]
  have u46l : 0 ≤ u46.toInt := by rw [u46w]; exact (hv36.2.1 34 7).1
  have u46u : u46.toInt ≤ 7 := by rw [u46w]; exact (hv36.2.1 34 7).2
  have k47 := k45
  refine go_aload_n (pc := 55) rfl dX3_readCall_55 ?_
  refine gi_getC (pc := 56) hv36 fL_X3_46 rfl (Nat.le_of_ble_eq_true rfl) rfl (by decide) dX3_readCall_56 (fun c48 hc48 fc48 => ?_)
  have k49 := bd_e k47 (st_c fc48)
  refine gi_getF (pc := 59) (q := c48 + 9) hv36 fL_X3_175 (by rcases hc48 with rfl | rfl <;> rfl) (Nat.le_of_ble_eq_true rfl) rfl (by rcases hc48 with rfl | rfl <;> exact hv36.rf (by decide)) dX3_readCall_59 ?_
  refine go_iload_n (pc := 62) rfl dX3_readCall_62 ?_
  refine go_aload_n (pc := 63) rfl dX3_readCall_63 ?_
  have g50 : (0 : Int) ≤ (h36.2.1 34 1).toInt := (hv36.2.1 34 1).1
  have g51 : (h36.2.1 34 1).toInt ≤ 500 := (hv36.2.1 34 1).2
  have g52 : (0 : Int) ≤ (h36.2.1 34 2).toInt := (hv36.2.1 34 2).1
  have g53 : (h36.2.1 34 2).toInt ≤ 500 := (hv36.2.1 34 2).2
  have g54 : (0 : Int) ≤ (h36.2.1 34 7).toInt := (hv36.2.1 34 7).1
  have g55 : (h36.2.1 34 7).toInt ≤ 7 := (hv36.2.1 34 7).2
  have g56 : (h36.2.1 34 1).toInt = u42.toInt := by rw [← (show u42 = h36.2.1 34 1 from u42w)] <;> exact (ti_rfl u42)
  have g57 : (h36.2.1 34 2).toInt = u44.toInt := by rw [← (show u44 = h36.2.1 34 2 from u44w)] <;> exact (ti_rfl u44)
  have g58 : (h36.2.1 34 7).toInt = u46.toInt := by rw [← (show u46 = h36.2.1 34 7 from u46w)] <;> exact (ti_rfl u46)
  refine go_invV (pc := 64) (sl := 0) (s_X3_readOperand_f l (d + 0) hv36 ) mL_X3_178 iM_X3_readOperand sM_X3_readOperand (hv36.sh rfl) rfl rfl rfl (Nat.le_of_ble_eq_true rfl) (show d + 0 + 3 + 1 ≤ d + 4 by omega) (show 8 + (3 + 11) + 40 * (d + 0 + 3) ≤ 40 * (d + 4) by omega) (g_c0 hv36.ln) (Nat.le_of_ble_eq_true rfl) dX3_readCall_64 ?_
  intro r h59 hq _
  obtain ⟨v64, rfl, v64l, v64u, hv59, f60, f61, f62, f63, pt59⟩ := hq
  have pr59 : PR h → PR h59 := fun z => pt59 (pr36 z)
  have fx59 : FX KC0 h h59 := FX.tr fx36 f63
  have k65 := bd2_e k49 f62
  obtain ⟨u66, u66w⟩ : ∃ v : Int32, v = h59.2.1 34 1 := ⟨_, rfl⟩
  have u66e : (h59.2.1 34 1).toInt = u66.toInt := by rw [u66w]
  have u66l : 0 ≤ u66.toInt := by rw [u66w]; exact (hv59.2.1 34 1).1
  have u66u : u66.toInt ≤ 500 := by rw [u66w]; exact (hv59.2.1 34 1).2
  have k67 := k65
  obtain ⟨u68, u68w⟩ : ∃ v : Int32, v = h59.2.1 34 2 := ⟨_, rfl⟩
  have u68e : (h59.2.1 34 2).toInt = u68.toInt := by rw [u68w]
  have u68l : 0 ≤ u68.toInt := by rw [u68w]; exact (hv59.2.1 34 2).1
  have u68u : u68.toInt ≤ 500 := by rw [u68w]; exact (hv59.2.1 34 2).2
  have k69 := k67
  obtain ⟨u70, u70w⟩ : ∃ v : Int32, v = h59.2.1 34 7 := ⟨_, rfl⟩
  have u70e : (h59.2.1 34 7).toInt = u70.toInt := by rw [u70w]
  have u70l : 0 ≤ u70.toInt := by rw [u70w]; exact (hv59.2.1 34 7).1
  have u70u : u70.toInt ≤ 7 := by rw [u70w]; exact (hv59.2.1 34 7).2
  have k71 := k69
  refine gi_iast (pc := 67) (lo := -2147483648) (hi := 2147483647) (len := 40) hv59 (ti_rfl a2) (ti_rfl v64) (by rcases hc48 with rfl | rfl <;> rfl) (by omega) (by omega) (fun _ => by rcases hc48 with rfl | rfl <;> rfl) (ti_ge (ti_rfl v64)) (ti_le2 (ti_rfl v64)) (by rcases hc48 with rfl | rfl <;> decide) dX3_readCall_67 (fun h72 hv72 hv72e => ?_)
  have pr72 : PR h → PR h72 := fun z => by rw [hv72e]; exact PR.put hv59 (pr59 z) (by omega)
  have fx72 : FX KC0 h h72 := FX.pI fx59 hv72e (by unfold KC0; omega)
  have k73 := bd_e k71 (st_I hv72e (ti_rfl v64))
  refine go_aload_n (pc := 68) rfl dX3_readCall_68 ?_
  refine go_bipush (pc := 69) (v := 44) (by decide) dX3_readCall_69 ?_
  have g74 : (0 : Int) ≤ (h72.2.1 34 1).toInt := (hv72.2.1 34 1).1
  have g75 : (h72.2.1 34 1).toInt ≤ 500 := (hv72.2.1 34 1).2
  have g76 : (0 : Int) ≤ (h72.2.1 34 2).toInt := (hv72.2.1 34 2).1
  have g77 : (h72.2.1 34 2).toInt ≤ 500 := (hv72.2.1 34 2).2
  have g78 : (0 : Int) ≤ (h72.2.1 34 7).toInt := (hv72.2.1 34 7).1
  have g79 : (h72.2.1 34 7).toInt ≤ 7 := (hv72.2.1 34 7).2
  have g80 : (h72.2.1 34 1).toInt = u66.toInt := by rw [← (show u66 = h72.2.1 34 1 from (show u66 = h72.2.1 34 1 from by rw [hv72e]; exact (g_iIc (by omega) (by decide) u66w.symm).symm))] <;> exact (ti_rfl u66)
  have g81 : (h72.2.1 34 2).toInt = u68.toInt := by rw [← (show u68 = h72.2.1 34 2 from (show u68 = h72.2.1 34 2 from by rw [hv72e]; exact (g_iIc (by omega) (by decide) u68w.symm).symm))] <;> exact (ti_rfl u68)
  have g82 : (h72.2.1 34 7).toInt = u70.toInt := by rw [← (show u70 = h72.2.1 34 7 from (show u70 = h72.2.1 34 7 from by rw [hv72e]; exact (g_iIc (by omega) (by decide) u70w.symm).symm))] <;> exact (ti_rfl u70)
  refine go_invV (pc := 71) (sl := 0) (s_X3_take_f l (d + 1) hv72 44 (by rw [show (44 : Int32).toInt = 44 from (ti_c (v := 44) (a := 44) (by decide))]; omega) (by rw [show (44 : Int32).toInt = 44 from (ti_c (v := 44) (a := 44) (by decide))]; omega)) mL_X3_181 iM_X3_take sM_X3_take (hv72.sh rfl) rfl rfl rfl (Nat.le_of_ble_eq_true rfl) (show d + 1 + 2 + 1 ≤ d + 4 by omega) (show 8 + (2 + 11) + 40 * (d + 1 + 2) ≤ 40 * (d + 4) by omega) (g_c0 hv72.ln) (Nat.le_of_ble_eq_true rfl) dX3_readCall_71 ?_
  intro r h83 hq _
  obtain ⟨rfl, hv83, f84, f85, f86, f87, pt83⟩ := hq
  have pr83 : PR h → PR h83 := fun z => pt83 (pr72 z)
  try rw [show (44 : Int32).toInt = 44 from (ti_c (v := 44) (a := 44) (by decide))] at f84
  try rw [show (44 : Int32).toInt = 44 from (ti_c (v := 44) (a := 44) (by decide))] at f85
  try rw [show (44 : Int32).toInt = 44 from (ti_c (v := 44) (a := 44) (by decide))] at f86
  try rw [show (44 : Int32).toInt = 44 from (ti_c (v := 44) (a := 44) (by decide))] at f87
  have fx83 : FX KC0 h h83 := FX.tr fx72 f87
  have k88 := bd_e k73 f86.symm
  obtain ⟨u89, u89w⟩ : ∃ v : Int32, v = h83.2.1 34 1 := ⟨_, rfl⟩
  have u89e : (h83.2.1 34 1).toInt = u89.toInt := by rw [u89w]
  have u89l : 0 ≤ u89.toInt := by rw [u89w]; exact (hv83.2.1 34 1).1
  have u89u : u89.toInt ≤ 500 := by rw [u89w]; exact (hv83.2.1 34 1).2
  have k90 := k88
  obtain ⟨u91, u91w⟩ : ∃ v : Int32, v = h83.2.1 34 2 := ⟨_, rfl⟩
  have u91e : (h83.2.1 34 2).toInt = u91.toInt := by rw [u91w]
  have u91l : 0 ≤ u91.toInt := by rw [u91w]; exact (hv83.2.1 34 2).1
  have u91u : u91.toInt ≤ 500 := by rw [u91w]; exact (hv83.2.1 34 2).2
  have k92 := k90
  obtain ⟨u93, u93w⟩ : ∃ v : Int32, v = h83.2.1 34 7 := ⟨_, rfl⟩
  have u93e : (h83.2.1 34 7).toInt = u93.toInt := by rw [u93w]
  have u93l : 0 ≤ u93.toInt := by rw [u93w]; exact (hv83.2.1 34 7).1
  have u93u : u93.toInt ≤ 7 := by rw [u93w]; exact (hv83.2.1 34 7).2
  have k94 := k92
  refine go_aload_n (pc := 74) rfl dX3_readCall_74 ?_
  refine gi_getC (pc := 75) hv83 fL_X3_46 rfl (Nat.le_of_ble_eq_true rfl) rfl (by decide) dX3_readCall_75 (fun c95 hc95 fc95 => ?_)
  have k96 := bd_e k94 (st_c fc95)
  refine gi_getF (pc := 78) (q := c95 + 10) hv83 fL_X3_184 (by rcases hc95 with rfl | rfl <;> rfl) (Nat.le_of_ble_eq_true rfl) rfl (by rcases hc95 with rfl | rfl <;> exact hv83.rf (by decide)) dX3_readCall_78 ?_
  refine go_iload_n (pc := 81) rfl dX3_readCall_81 ?_
  refine go_aload_n (pc := 82) rfl dX3_readCall_82 ?_
  have g97 : (0 : Int) ≤ (h83.2.1 34 1).toInt := (hv83.2.1 34 1).1
  have g98 : (h83.2.1 34 1).toInt ≤ 500 := (hv83.2.1 34 1).2
  have g99 : (0 : Int) ≤ (h83.2.1 34 2).toInt := (hv83.2.1 34 2).1
  have g100 : (h83.2.1 34 2).toInt ≤ 500 := (hv83.2.1 34 2).2
  have g101 : (0 : Int) ≤ (h83.2.1 34 7).toInt := (hv83.2.1 34 7).1
  have g102 : (h83.2.1 34 7).toInt ≤ 7 := (hv83.2.1 34 7).2
  have g103 : (h83.2.1 34 1).toInt = u89.toInt := by rw [← (show u89 = h83.2.1 34 1 from u89w)] <;> exact (ti_rfl u89)
  have g104 : (h83.2.1 34 2).toInt = u91.toInt := by rw [← (show u91 = h83.2.1 34 2 from u91w)] <;> exact (ti_rfl u91)
  have g105 : (h83.2.1 34 7).toInt = u93.toInt := by rw [← (show u93 = h83.2.1 34 7 from u93w)] <;> exact (ti_rfl u93)
  refine go_invV (pc := 83) (sl := 0) (s_X3_readOperand_f l (d + 0) hv83 ) mL_X3_178 iM_X3_readOperand sM_X3_readOperand (hv83.sh rfl) rfl rfl rfl (Nat.le_of_ble_eq_true rfl) (show d + 0 + 3 + 1 ≤ d + 4 by omega) (show 8 + (3 + 11) + 40 * (d + 0 + 3) ≤ 40 * (d + 4) by omega) (g_c0 hv83.ln) (Nat.le_of_ble_eq_true rfl) dX3_readCall_83 ?_
  intro r h106 hq _
  obtain ⟨v111, rfl, v111l, v111u, hv106, f107, f108, f109, f110, pt106⟩ := hq
  have pr106 : PR h → PR h106 := fun z => pt106 (pr83 z)
  have fx106 : FX KC0 h h106 := FX.tr fx83 f110
  have k112 := bd2_e k96 f109
  obtain ⟨u113, u113w⟩ : ∃ v : Int32, v = h106.2.1 34 1 := ⟨_, rfl⟩
  have u113e : (h106.2.1 34 1).toInt = u113.toInt := by rw [u113w]
  have u113l : 0 ≤ u113.toInt := by rw [u113w]; exact (hv106.2.1 34 1).1
  have u113u : u113.toInt ≤ 500 := by rw [u113w]; exact (hv106.2.1 34 1).2
  have k114 := k112
  obtain ⟨u115, u115w⟩ : ∃ v : Int32, v = h106.2.1 34 2 := ⟨_, rfl⟩
  have u115e : (h106.2.1 34 2).toInt = u115.toInt := by rw [u115w]
  have u115l : 0 ≤ u115.toInt := by rw [u115w]; exact (hv106.2.1 34 2).1
  have u115u : u115.toInt ≤ 500 := by rw [u115w]; exact (hv106.2.1 34 2).2
  have k116 := k114
  obtain ⟨u117, u117w⟩ : ∃ v : Int32, v = h106.2.1 34 7 := ⟨_, rfl⟩
  have u117e : (h106.2.1 34 7).toInt = u117.toInt := by rw [u117w]
  have u117l : 0 ≤ u117.toInt := by rw [u117w]; exact (hv106.2.1 34 7).1
  have u117u : u117.toInt ≤ 7 := by rw [u117w]; exact (hv106.2.1 34 7).2
  have k118 := k116
  refine gi_iast (pc := 86) (lo := -2147483648) (hi := 2147483647) (len := 40) hv106 (ti_rfl a2) (ti_rfl v111) (by rcases hc95 with rfl | rfl <;> rfl) (by omega) (by omega) (fun _ => by rcases hc95 with rfl | rfl <;> rfl) (ti_ge (ti_rfl v111)) (ti_le2 (ti_rfl v111)) (by rcases hc95 with rfl | rfl <;> decide) dX3_readCall_86 (fun h119 hv119 hv119e => ?_)
  have pr119 : PR h → PR h119 := fun z => by rw [hv119e]; exact PR.put hv106 (pr106 z) (by omega)
  have fx119 : FX KC0 h h119 := FX.pI fx106 hv119e (by unfold KC0; omega)
  have k120 := bd_e k118 (st_I hv119e (ti_rfl v111))
  refine go_aload_n (pc := 87) rfl dX3_readCall_87 ?_
  refine go_bipush (pc := 88) (v := 41) (by decide) dX3_readCall_88 ?_
  have g121 : (0 : Int) ≤ (h119.2.1 34 1).toInt := (hv119.2.1 34 1).1
  have g122 : (h119.2.1 34 1).toInt ≤ 500 := (hv119.2.1 34 1).2
  have g123 : (0 : Int) ≤ (h119.2.1 34 2).toInt := (hv119.2.1 34 2).1
  have g124 : (h119.2.1 34 2).toInt ≤ 500 := (hv119.2.1 34 2).2
  have g125 : (0 : Int) ≤ (h119.2.1 34 7).toInt := (hv119.2.1 34 7).1
  have g126 : (h119.2.1 34 7).toInt ≤ 7 := (hv119.2.1 34 7).2
  have g127 : (h119.2.1 34 1).toInt = u113.toInt := by rw [← (show u113 = h119.2.1 34 1 from (show u113 = h119.2.1 34 1 from by rw [hv119e]; exact (g_iIc (by omega) (by decide) u113w.symm).symm))] <;> exact (ti_rfl u113)
  have g128 : (h119.2.1 34 2).toInt = u115.toInt := by rw [← (show u115 = h119.2.1 34 2 from (show u115 = h119.2.1 34 2 from by rw [hv119e]; exact (g_iIc (by omega) (by decide) u115w.symm).symm))] <;> exact (ti_rfl u115)
  have g129 : (h119.2.1 34 7).toInt = u117.toInt := by rw [← (show u117 = h119.2.1 34 7 from (show u117 = h119.2.1 34 7 from by rw [hv119e]; exact (g_iIc (by omega) (by decide) u117w.symm).symm))] <;> exact (ti_rfl u117)
  refine go_invV (pc := 90) (sl := 0) (s_X3_take_f l (d + 1) hv119 41 (by rw [show (41 : Int32).toInt = 41 from (ti_c (v := 41) (a := 41) (by decide))]; omega) (by rw [show (41 : Int32).toInt = 41 from (ti_c (v := 41) (a := 41) (by decide))]; omega)) mL_X3_181 iM_X3_take sM_X3_take (hv119.sh rfl) rfl rfl rfl (Nat.le_of_ble_eq_true rfl) (show d + 1 + 2 + 1 ≤ d + 4 by omega) (show 8 + (2 + 11) + 40 * (d + 1 + 2) ≤ 40 * (d + 4) by omega) (g_c0 hv119.ln) (Nat.le_of_ble_eq_true rfl) dX3_readCall_90 ?_
  intro r h130 hq _
  obtain ⟨rfl, hv130, f131, f132, f133, f134, pt130⟩ := hq
  have pr130 : PR h → PR h130 := fun z => pt130 (pr119 z)
  try rw [show (41 : Int32).toInt = 41 from (ti_c (v := 41) (a := 41) (by decide))] at f131
  try rw [show (41 : Int32).toInt = 41 from (ti_c (v := 41) (a := 41) (by decide))] at f132
  try rw [show (41 : Int32).toInt = 41 from (ti_c (v := 41) (a := 41) (by decide))] at f133
  try rw [show (41 : Int32).toInt = 41 from (ti_c (v := 41) (a := 41) (by decide))] at f134
  have fx130 : FX KC0 h h130 := FX.tr fx119 f134
  have k135 := bd_e k120 f133.symm
  obtain ⟨u136, u136w⟩ : ∃ v : Int32, v = h130.2.1 34 1 := ⟨_, rfl⟩
  have u136e : (h130.2.1 34 1).toInt = u136.toInt := by rw [u136w]
  have u136l : 0 ≤ u136.toInt := by rw [u136w]; exact (hv130.2.1 34 1).1
  have u136u : u136.toInt ≤ 500 := by rw [u136w]; exact (hv130.2.1 34 1).2
  have k137 := k135
  obtain ⟨u138, u138w⟩ : ∃ v : Int32, v = h130.2.1 34 2 := ⟨_, rfl⟩
  have u138e : (h130.2.1 34 2).toInt = u138.toInt := by rw [u138w]
  have u138l : 0 ≤ u138.toInt := by rw [u138w]; exact (hv130.2.1 34 2).1
  have u138u : u138.toInt ≤ 500 := by rw [u138w]; exact (hv130.2.1 34 2).2
  have k139 := k137
  obtain ⟨u140, u140w⟩ : ∃ v : Int32, v = h130.2.1 34 7 := ⟨_, rfl⟩
  have u140e : (h130.2.1 34 7).toInt = u140.toInt := by rw [u140w]
  have u140l : 0 ≤ u140.toInt := by rw [u140w]; exact (hv130.2.1 34 7).1
  have u140u : u140.toInt ≤ 7 := by rw [u140w]; exact (hv130.2.1 34 7).2
  have k141 := k139
  have g142 : (0 : Int) ≤ (h130.2.1 34 1).toInt := (hv130.2.1 34 1).1
  have g143 : (h130.2.1 34 1).toInt ≤ 500 := (hv130.2.1 34 1).2
  have g144 : (0 : Int) ≤ (h130.2.1 34 2).toInt := (hv130.2.1 34 2).1
  have g145 : (h130.2.1 34 2).toInt ≤ 500 := (hv130.2.1 34 2).2
  have g146 : (0 : Int) ≤ (h130.2.1 34 7).toInt := (hv130.2.1 34 7).1
  have g147 : (h130.2.1 34 7).toInt ≤ 7 := (hv130.2.1 34 7).2
  have g148 : (h130.2.1 34 1).toInt = u136.toInt := by rw [← (show u136 = h130.2.1 34 1 from u136w)] <;> exact (ti_rfl u136)
  have g149 : (h130.2.1 34 2).toInt = u138.toInt := by rw [← (show u138 = h130.2.1 34 2 from u138w)] <;> exact (ti_rfl u138)
  have g150 : (h130.2.1 34 7).toInt = u140.toInt := by rw [← (show u140 = h130.2.1 34 7 from u140w)] <;> exact (ti_rfl u140)
  exact gi_vret (pc := 93) ⟨rfl, ⟨(P.1, P.2.1, h13.2.1, P.2.2.2), hv130, (by show (0 : Int) = 0; omega), rfl, rfl, rfl⟩, (by omega), (by omega), (k141.symm.trans kf), fx130, pr130⟩ hv130 dX3_readCall_93
def f_X3_readAssignment (s : ST) (a2 : Int) (a3 : Int) : ST :=
  bd (s.2.2 34 4) fun c4 => bd (sI s (c4 + 6) (a2).toNat a3) fun s6 => bd (f_X3_take s6 61) fun s17 => bd2 (f_X3_look s17) fun s38 v44 => if v44 < 65 then (bd (f_X3_readNumbers s38 a2) fun s63 => bd (f_X3_take s63 59) fun s84 => s84) else (if 70 ≤ v44 then (bd (f_X3_readNumbers s38 a2) fun s117 => bd (f_X3_take s117 59) fun s138 => s138) else (bd (f_X7_isField s38 a3) fun v163 => if ¬ v163 = 0 then (bd (f_X3_readNumbers s38 a2) fun s177 => bd (f_X3_take s177 59) fun s198 => s198) else (bd (f_X3_readCall s38 a2 v44) fun s229 => bd (f_X3_take s229 59) fun s255 => s255)))
set_option maxHeartbeats 4000000 in
set_option maxRecDepth 100000 in
theorem s_X3_readAssignment_f (l : Launch) (d : Nat) {P : PP} {h : HP} (hv : Iv P h) (a2 : Int32) (a2l : 0 ≤ a2.toInt) (a2u : a2.toInt ≤ 39) (a3 : Int32) (a3l : -1 ≤ a3.toInt) (a3u : a3.toInt ≤ 9) : Mt l yX3_readAssignment cX3_readAssignment 4 none (d + 5) [.ref 34, .int a2, .int a3] h 0 0 (fun r h' => r = none ∧ (∃ Q : PP, Iv Q h' ∧ ((0 : Int) = 0) ∧ Q.1 = P.1 ∧ Q.2.1 = P.2.1 ∧ Q.2.2.2 = P.2.2.2) ∧ ((h'.2.1 34 1).toInt = (h.2.1 34 1).toInt) ∧ ((h'.2.1 34 7).toInt = (h.2.1 34 7).toInt) ∧ (st h' = f_X3_readAssignment (st h) a2.toInt a3.toInt) ∧ (FX KC0 h h') ∧ (PR h → PR h')) := by
  refine Mt_iv hv (by decide) (Nat.le_of_ble_eq_true rfl) ?_
  show Go l RX3 cX3_readAssignment 4 (g_rm (d + 5) 0 0) "readAssignment" none 117 0 0 (fun _ _ => True) (fun r h' => r = none ∧ (∃ Q : PP, Iv Q h' ∧ ((0 : Int) = 0) ∧ Q.1 = P.1 ∧ Q.2.1 = P.2.1 ∧ Q.2.2.2 = P.2.2.2) ∧ ((h'.2.1 34 1).toInt = (h.2.1 34 1).toInt) ∧ ((h'.2.1 34 7).toInt = (h.2.1 34 7).toInt) ∧ (st h' = f_X3_readAssignment (st h) a2.toInt a3.toInt) ∧ (FX KC0 h h') ∧ (PR h → PR h')) 0 0 [(0, .ref 34), (1, .int a2), (2, .int a3)] [] h
  have pr : PR h → PR h := id
  have fx : FX KC0 h h := FX.rfl
  obtain ⟨fin, kf⟩ : ∃ z, z = f_X3_readAssignment (st h) a2.toInt a3.toInt := ⟨_, _root_.rfl⟩
  have k0 := kf
  unfold f_X3_readAssignment at k0
  obtain ⟨u34_2, u34_2w⟩ : ∃ v : Int32, v = h.2.1 34 2 := ⟨_, rfl⟩
  have u34_2e : (h.2.1 34 2).toInt = u34_2.toInt := by rw [u34_2w]
  have u34_2l : 0 ≤ u34_2.toInt := by rw [u34_2w]; exact (hv.2.1 34 2).1
  have u34_2u : u34_2.toInt ≤ 500 := by rw [u34_2w]; exact (hv.2.1 34 2).2
  obtain ⟨u34_1, u34_1w⟩ : ∃ v : Int32, v = h.2.1 34 1 := ⟨_, rfl⟩
  have u34_1e : (h.2.1 34 1).toInt = u34_1.toInt := by rw [u34_1w]
  have u34_1l : 0 ≤ u34_1.toInt := by rw [u34_1w]; exact (hv.2.1 34 1).1
  have u34_1u : u34_1.toInt ≤ 500 := by rw [u34_1w]; exact (hv.2.1 34 1).2
  obtain ⟨u34_7, u34_7w⟩ : ∃ v : Int32, v = h.2.1 34 7 := ⟨_, rfl⟩
  have u34_7e : (h.2.1 34 7).toInt = u34_7.toInt := by rw [u34_7w]
  have u34_7l : 0 ≤ u34_7.toInt := by rw [u34_7w]; exact (hv.2.1 34 7).1
  have u34_7u : u34_7.toInt ≤ 7 := by rw [u34_7w]; exact (hv.2.1 34 7).2
  have k1 := k0
  have k2 := k1
  have k3 := k2
  refine go_aload_n (pc := 0) rfl dX3_readAssignment_0 ?_
  refine gi_getC (pc := 1) hv fL_X3_46 rfl (Nat.le_of_ble_eq_true rfl) rfl (by decide) dX3_readAssignment_1 (fun c4 hc4 fc4 => ?_)
  have k5 := bd_e k3 (st_c fc4)
  refine gi_getF (pc := 4) (q := c4 + 6) hv fL_X3_187 (by rcases hc4 with rfl | rfl <;> rfl) (Nat.le_of_ble_eq_true rfl) rfl (by rcases hc4 with rfl | rfl <;> exact hv.rf (by decide)) dX3_readAssignment_4 ?_
  refine go_iload_n (pc := 7) rfl dX3_readAssignment_7 ?_
  refine go_iload_n (pc := 8) rfl dX3_readAssignment_8 ?_
  refine gi_iast (pc := 9) (lo := -1) (hi := 9) (len := 40) hv (ti_rfl a2) (ti_rfl a3) (by rcases hc4 with rfl | rfl <;> rfl) (by omega) (by omega) (fun _ => by rcases hc4 with rfl | rfl <;> rfl) (by omega) (by omega) (by rcases hc4 with rfl | rfl <;> decide) dX3_readAssignment_9 (fun h6 hv6 hv6e => ?_)
  have pr6 : PR h → PR h6 := fun z => by rw [hv6e]; exact PR.put hv (pr z) (by omega)
  have fx6 : FX KC0 h h6 := FX.pI fx hv6e (by unfold KC0; omega)
  have k7 := bd_e k5 (st_I hv6e (ti_rfl a3))
  refine go_aload_n (pc := 10) rfl dX3_readAssignment_10 ?_
  refine go_bipush (pc := 11) (v := 61) (by decide) dX3_readAssignment_11 ?_
  have g8 : (0 : Int) ≤ (h6.2.1 34 1).toInt := (hv6.2.1 34 1).1
  have g9 : (h6.2.1 34 1).toInt ≤ 500 := (hv6.2.1 34 1).2
  have g10 : (0 : Int) ≤ (h6.2.1 34 2).toInt := (hv6.2.1 34 2).1
  have g11 : (h6.2.1 34 2).toInt ≤ 500 := (hv6.2.1 34 2).2
  have g12 : (0 : Int) ≤ (h6.2.1 34 7).toInt := (hv6.2.1 34 7).1
  have g13 : (h6.2.1 34 7).toInt ≤ 7 := (hv6.2.1 34 7).2
  have g14 : (h6.2.1 34 2).toInt = u34_2.toInt := by rw [← (show u34_2 = h6.2.1 34 2 from (show u34_2 = h6.2.1 34 2 from by rw [hv6e]; exact (g_iIc (by omega) (by decide) u34_2w.symm).symm))] <;> exact (ti_rfl u34_2)
  have g15 : (h6.2.1 34 1).toInt = u34_1.toInt := by rw [← (show u34_1 = h6.2.1 34 1 from (show u34_1 = h6.2.1 34 1 from by rw [hv6e]; exact (g_iIc (by omega) (by decide) u34_1w.symm).symm))] <;> exact (ti_rfl u34_1)
  have g16 : (h6.2.1 34 7).toInt = u34_7.toInt := by rw [← (show u34_7 = h6.2.1 34 7 from (show u34_7 = h6.2.1 34 7 from by rw [hv6e]; exact (g_iIc (by omega) (by decide) u34_7w.symm).symm))] <;> exact (ti_rfl u34_7)
  refine go_invV (pc := 13) (sl := 0) (s_X3_take_f l (d + 2) hv6 61 (by rw [show (61 : Int32).toInt = 61 from (ti_c (v := 61) (a := 61) (by decide))]; omega) (by rw [show (61 : Int32).toInt = 61 from (ti_c (v := 61) (a := 61) (by decide))]; omega)) mL_X3_181 iM_X3_take sM_X3_take (hv6.sh rfl) rfl rfl rfl (Nat.le_of_ble_eq_true rfl) (show d + 2 + 2 + 1 ≤ d + 5 by omega) (show 8 + (2 + 11) + 40 * (d + 2 + 2) ≤ 40 * (d + 5) by omega) (g_c0 hv6.ln) (Nat.le_of_ble_eq_true rfl) dX3_readAssignment_13 ?_
  intro r h17 hq _
  obtain ⟨rfl, hv17, f18, f19, f20, f21, pt17⟩ := hq
  have pr17 : PR h → PR h17 := fun z => pt17 (pr6 z)
  try rw [show (61 : Int32).toInt = 61 from (ti_c (v := 61) (a := 61) (by decide))] at f18
  try rw [show (61 : Int32).toInt = 61 from (ti_c (v := 61) (a := 61) (by decide))] at f19
  try rw [show (61 : Int32).toInt = 61 from (ti_c (v := 61) (a := 61) (by decide))] at f20
  try rw [show (61 : Int32).toInt = 61 from (ti_c (v := 61) (a := 61) (by decide))] at f21
  have fx17 : FX KC0 h h17 := FX.tr fx6 f21
  have k22 := bd_e k7 f20.symm
  obtain ⟨u23, u23w⟩ : ∃ v : Int32, v = h17.2.1 34 1 := ⟨_, rfl⟩
  have u23e : (h17.2.1 34 1).toInt = u23.toInt := by rw [u23w]
  have u23l : 0 ≤ u23.toInt := by rw [u23w]; exact (hv17.2.1 34 1).1
  have u23u : u23.toInt ≤ 500 := by rw [u23w]; exact (hv17.2.1 34 1).2
  have k24 := k22
  obtain ⟨u25, u25w⟩ : ∃ v : Int32, v = h17.2.1 34 2 := ⟨_, rfl⟩
  have u25e : (h17.2.1 34 2).toInt = u25.toInt := by rw [u25w]
  have u25l : 0 ≤ u25.toInt := by rw [u25w]; exact (hv17.2.1 34 2).1
  have u25u : u25.toInt ≤ 500 := by rw [u25w]; exact (hv17.2.1 34 2).2
  have k26 := k24
  obtain ⟨u27, u27w⟩ : ∃ v : Int32, v = h17.2.1 34 7 := ⟨_, rfl⟩
  have u27e : (h17.2.1 34 7).toInt = u27.toInt := by rw [u27w]
  have u27l : 0 ≤ u27.toInt := by rw [u27w]; exact (hv17.2.1 34 7).1
  have u27u : u27.toInt ≤ 7 := by rw [u27w]; exact (hv17.2.1 34 7).2
  have k28 := k26
  refine go_aload_n (pc := 16) rfl dX3_readAssignment_16 ?_
  have g29 : (0 : Int) ≤ (h17.2.1 34 1).toInt := (hv17.2.1 34 1).1
  have g30 : (h17.2.1 34 1).toInt ≤ 500 := (hv17.2.1 34 1).2
  have g31 : (0 : Int) ≤ (h17.2.1 34 2).toInt := (hv17.2.1 34 2).1
  have g32 : (h17.2.1 34 2).toInt ≤ 500 := (hv17.2.1 34 2).2
  have g33 : (0 : Int) ≤ (h17.2.1 34 7).toInt := (hv17.2.1 34 7).1
  have g34 : (h17.2.1 34 7).toInt ≤ 7 := (hv17.2.1 34 7).2
  have g35 : (h17.2.1 34 1).toInt = u23.toInt := by rw [← (show u23 = h17.2.1 34 1 from u23w)] <;> exact (ti_rfl u23)
  have g36 : (h17.2.1 34 2).toInt = u25.toInt := by rw [← (show u25 = h17.2.1 34 2 from u25w)] <;> exact (ti_rfl u25)
  have g37 : (h17.2.1 34 7).toInt = u27.toInt := by rw [← (show u27 = h17.2.1 34 7 from u27w)] <;> exact (ti_rfl u27)
  refine go_invV (pc := 17) (sl := 0) (s_X3_look_f l (d + 3) hv17 ) mL_X3_66 iM_X3_look sM_X3_look (hv17.sh rfl) rfl rfl rfl (Nat.le_of_ble_eq_true rfl) (show d + 3 + 1 + 1 ≤ d + 5 by omega) (show 8 + (1 + 11) + 40 * (d + 3 + 1) ≤ 40 * (d + 5) by omega) (g_c0 hv17.ln) (Nat.le_of_ble_eq_true rfl) dX3_readAssignment_17 ?_
  intro r h38 hq _
  obtain ⟨v44, rfl, v44l, v44u, hv38, f39, f40, f41, f42, f43, pt38⟩ := hq
  have pr38 : PR h → PR h38 := fun z => pt38 (pr17 z)
  have fx38 : FX KC0 h h38 := FX.tr fx17 f43
  have k45 := bd2_e k28 f42
  obtain ⟨u46, u46w⟩ : ∃ v : Int32, v = h38.2.1 34 1 := ⟨_, rfl⟩
  have u46e : (h38.2.1 34 1).toInt = u46.toInt := by rw [u46w]
  have u46l : 0 ≤ u46.toInt := by rw [u46w]; exact (hv38.2.1 34 1).1
  have u46u : u46.toInt ≤ 500 := by rw [u46w]; exact (hv38.2.1 34 1).2
  have k47 := k45
  obtain ⟨u48, u48w⟩ : ∃ v : Int32, v = h38.2.1 34 2 := ⟨_, rfl⟩
  have u48e : (h38.2.1 34 2).toInt = u48.toInt := by rw [u48w]
  have u48l : 0 ≤ u48.toInt := by rw [u48w]; exact (hv38.2.1 34 2).1
  have u48u : u48.toInt ≤ 500 := by rw [u48w]; exact (hv38.2.1 34 2).2
  have k49 := k47
  obtain ⟨u50, u50w⟩ : ∃ v : Int32, v = h38.2.1 34 7 := ⟨_, rfl⟩
  have u50e : (h38.2.1 34 7).toInt = u50.toInt := by rw [u50w]
  have u50l : 0 ≤ u50.toInt := by rw [u50w]; exact (hv38.2.1 34 7).1
  have u50u : u50.toInt ≤ 7 := by rw [u50w]; exact (hv38.2.1 34 7).2
  have k51 := k49
  refine go_istore_n (pc := 20) (Nat.le_of_ble_eq_true rfl) dX3_readAssignment_20 (go_lv (lv2 := [(0, .ref 34), (1, .int a2), (2, .int a3), (3, .int v44)]) rfl ?_)
  refine go_iload_n (pc := 21) rfl dX3_readAssignment_21 ?_
  refine go_bipush (pc := 22) (v := 65) (by decide) dX3_readAssignment_22 ?_
  refine gf_icmp_lt (pc := 24) (tgt := 49) (ti_rfl v44) (ti_c (v := 65) (a := 65) (by decide)) (by decide) dX3_readAssignment_24 (fun q52 => ?_) (fun q52 => ?_)
  ·
    have k53 := if_t k51 q52
    refine go_aload_n (pc := 49) rfl dX3_readAssignment_49 ?_
    refine go_iload_n (pc := 50) rfl dX3_readAssignment_50 ?_
    have g54 : (0 : Int) ≤ (h38.2.1 34 1).toInt := (hv38.2.1 34 1).1
    have g55 : (h38.2.1 34 1).toInt ≤ 500 := (hv38.2.1 34 1).2
    have g56 : (0 : Int) ≤ (h38.2.1 34 2).toInt := (hv38.2.1 34 2).1
    have g57 : (h38.2.1 34 2).toInt ≤ 500 := (hv38.2.1 34 2).2
    have g58 : (0 : Int) ≤ (h38.2.1 34 7).toInt := (hv38.2.1 34 7).1
    have g59 : (h38.2.1 34 7).toInt ≤ 7 := (hv38.2.1 34 7).2
    have g60 : (h38.2.1 34 1).toInt = u46.toInt := by rw [← (show u46 = h38.2.1 34 1 from u46w)] <;> exact (ti_rfl u46)
    have g61 : (h38.2.1 34 2).toInt = u48.toInt := by rw [← (show u48 = h38.2.1 34 2 from u48w)] <;> exact (ti_rfl u48)
    have g62 : (h38.2.1 34 7).toInt = u50.toInt := by rw [← (show u50 = h38.2.1 34 7 from u50w)] <;> exact (ti_rfl u50)
    refine go_invV (pc := 51) (sl := 0) (s_X3_readNumbers_f l (d + 0) hv38 a2 (by rw [show (a2 : Int32).toInt = a2.toInt from (ti_rfl a2)]; omega) (by rw [show (a2 : Int32).toInt = a2.toInt from (ti_rfl a2)]; omega)) mL_X3_193 iM_X3_readNumbers sM_X3_readNumbers (hv38.sh rfl) rfl rfl rfl (Nat.le_of_ble_eq_true rfl) (show d + 0 + 4 + 1 ≤ d + 5 by omega) (show 8 + (3 + 11) + 40 * (d + 0 + 4) ≤ 40 * (d + 5) by omega) (g_c0 hv38.ln) (Nat.le_of_ble_eq_true rfl) dX3_readAssignment_51 ?_
    intro r h63 hq _
    obtain ⟨rfl, hv63, f64, f65, f66, f67, pt63⟩ := hq
    have pr63 : PR h → PR h63 := fun z => pt63 (pr38 z)
    have fx63 : FX KC0 h h63 := FX.tr fx38 f67
    have k68 := bd_e k53 f66.symm
    obtain ⟨u69, u69w⟩ : ∃ v : Int32, v = h63.2.1 34 1 := ⟨_, rfl⟩
    have u69e : (h63.2.1 34 1).toInt = u69.toInt := by rw [u69w]
    have u69l : 0 ≤ u69.toInt := by rw [u69w]; exact (hv63.2.1 34 1).1
    have u69u : u69.toInt ≤ 500 := by rw [u69w]; exact (hv63.2.1 34 1).2
    have k70 := k68
    obtain ⟨u71, u71w⟩ : ∃ v : Int32, v = h63.2.1 34 2 := ⟨_, rfl⟩
    have u71e : (h63.2.1 34 2).toInt = u71.toInt := by rw [u71w]
    have u71l : 0 ≤ u71.toInt := by rw [u71w]; exact (hv63.2.1 34 2).1
    have u71u : u71.toInt ≤ 500 := by rw [u71w]; exact (hv63.2.1 34 2).2
    have k72 := k70
    obtain ⟨u73, u73w⟩ : ∃ v : Int32, v = h63.2.1 34 7 := ⟨_, rfl⟩
    have u73e : (h63.2.1 34 7).toInt = u73.toInt := by rw [u73w]
    have u73l : 0 ≤ u73.toInt := by rw [u73w]; exact (hv63.2.1 34 7).1
    have u73u : u73.toInt ≤ 7 := by rw [u73w]; exact (hv63.2.1 34 7).2
    have k74 := k72
    refine go_aload_n (pc := 54) rfl dX3_readAssignment_54 ?_
    refine go_bipush (pc := 55) (v := 59) (by decide) dX3_readAssignment_55 ?_
    have g75 : (0 : Int) ≤ (h63.2.1 34 1).toInt := (hv63.2.1 34 1).1
    have g76 : (h63.2.1 34 1).toInt ≤ 500 := (hv63.2.1 34 1).2
    have g77 : (0 : Int) ≤ (h63.2.1 34 2).toInt := (hv63.2.1 34 2).1
    have g78 : (h63.2.1 34 2).toInt ≤ 500 := (hv63.2.1 34 2).2
    have g79 : (0 : Int) ≤ (h63.2.1 34 7).toInt := (hv63.2.1 34 7).1
    have g80 : (h63.2.1 34 7).toInt ≤ 7 := (hv63.2.1 34 7).2
    have g81 : (h63.2.1 34 1).toInt = u69.toInt := by rw [← (show u69 = h63.2.1 34 1 from u69w)] <;> exact (ti_rfl u69)
    have g82 : (h63.2.1 34 2).toInt = u71.toInt := by rw [← (show u71 = h63.2.1 34 2 from u71w)] <;> exact (ti_rfl u71)
    have g83 : (h63.2.1 34 7).toInt = u73.toInt := by rw [← (show u73 = h63.2.1 34 7 from u73w)] <;> exact (ti_rfl u73)
    refine go_invV (pc := 57) (sl := 0) (s_X3_take_f l (d + 2) hv63 59 (by rw [show (59 : Int32).toInt = 59 from (ti_c (v := 59) (a := 59) (by decide))]; omega) (by rw [show (59 : Int32).toInt = 59 from (ti_c (v := 59) (a := 59) (by decide))]; omega)) mL_X3_181 iM_X3_take sM_X3_take (hv63.sh rfl) rfl rfl rfl (Nat.le_of_ble_eq_true rfl) (show d + 2 + 2 + 1 ≤ d + 5 by omega) (show 8 + (2 + 11) + 40 * (d + 2 + 2) ≤ 40 * (d + 5) by omega) (g_c0 hv63.ln) (Nat.le_of_ble_eq_true rfl) dX3_readAssignment_57 ?_
    intro r h84 hq _
    obtain ⟨rfl, hv84, f85, f86, f87, f88, pt84⟩ := hq
    have pr84 : PR h → PR h84 := fun z => pt84 (pr63 z)
    try rw [show (59 : Int32).toInt = 59 from (ti_c (v := 59) (a := 59) (by decide))] at f85
    try rw [show (59 : Int32).toInt = 59 from (ti_c (v := 59) (a := 59) (by decide))] at f86
    try rw [show (59 : Int32).toInt = 59 from (ti_c (v := 59) (a := 59) (by decide))] at f87
    try rw [show (59 : Int32).toInt = 59 from (ti_c (v := 59) (a := 59) (by decide))] at f88
    have fx84 : FX KC0 h h84 := FX.tr fx63 f88
    have k89 := bd_e k74 f87.symm
    obtain ⟨u90, u90w⟩ : ∃ v : Int32, v = h84.2.1 34 1 := ⟨_, rfl⟩
    have u90e : (h84.2.1 34 1).toInt = u90.toInt := by rw [u90w]
    have u90l : 0 ≤ u90.toInt := by rw [u90w]; exact (hv84.2.1 34 1).1
    have u90u : u90.toInt ≤ 500 := by rw [u90w]; exact (hv84.2.1 34 1).2
    have k91 := k89
    obtain ⟨u92, u92w⟩ : ∃ v : Int32, v = h84.2.1 34 2 := ⟨_, rfl⟩
    have u92e : (h84.2.1 34 2).toInt = u92.toInt := by rw [u92w]
    have u92l : 0 ≤ u92.toInt := by rw [u92w]; exact (hv84.2.1 34 2).1
    have u92u : u92.toInt ≤ 500 := by rw [u92w]; exact (hv84.2.1 34 2).2
    have k93 := k91
    obtain ⟨u94, u94w⟩ : ∃ v : Int32, v = h84.2.1 34 7 := ⟨_, rfl⟩
    have u94e : (h84.2.1 34 7).toInt = u94.toInt := by rw [u94w]
    have u94l : 0 ≤ u94.toInt := by rw [u94w]; exact (hv84.2.1 34 7).1
    have u94u : u94.toInt ≤ 7 := by rw [u94w]; exact (hv84.2.1 34 7).2
    have k95 := k93
    have g96 : (0 : Int) ≤ (h84.2.1 34 1).toInt := (hv84.2.1 34 1).1
    have g97 : (h84.2.1 34 1).toInt ≤ 500 := (hv84.2.1 34 1).2
    have g98 : (0 : Int) ≤ (h84.2.1 34 2).toInt := (hv84.2.1 34 2).1
    have g99 : (h84.2.1 34 2).toInt ≤ 500 := (hv84.2.1 34 2).2
    have g100 : (0 : Int) ≤ (h84.2.1 34 7).toInt := (hv84.2.1 34 7).1
    have g101 : (h84.2.1 34 7).toInt ≤ 7 := (hv84.2.1 34 7).2
    have g102 : (h84.2.1 34 1).toInt = u90.toInt := by rw [← (show u90 = h84.2.1 34 1 from u90w)] <;> exact (ti_rfl u90)
    have g103 : (h84.2.1 34 2).toInt = u92.toInt := by rw [← (show u92 = h84.2.1 34 2 from u92w)] <;> exact (ti_rfl u92)
    have g104 : (h84.2.1 34 7).toInt = u94.toInt := by rw [← (show u94 = h84.2.1 34 7 from u94w)] <;> exact (ti_rfl u94)
    exact gi_vret (pc := 60) ⟨rfl, ⟨P, hv84, (by show (0 : Int) = 0; omega), rfl, rfl, rfl⟩, (by omega), (by omega), (k95.symm.trans kf), fx84, pr84⟩ hv84 dX3_readAssignment_60
  ·
    have k105 := if_f k51 (Int.not_lt.mpr q52)
    refine go_iload_n (pc := 27) rfl dX3_readAssignment_27 ?_
    refine go_bipush (pc := 28) (v := 70) (by decide) dX3_readAssignment_28 ?_
    refine gf_icmp_ge (pc := 30) (tgt := 49) (ti_rfl v44) (ti_c (v := 70) (a := 70) (by decide)) (by decide) dX3_readAssignment_30 (fun q106 => ?_) (fun q106 => ?_)
    ·
      have k107 := if_t k105 q106
      refine go_aload_n (pc := 49) rfl dX3_readAssignment_49 ?_
      refine go_iload_n (pc := 50) rfl dX3_readAssignment_50 ?_
      have g108 : (0 : Int) ≤ (h38.2.1 34 1).toInt := (hv38.2.1 34 1).1
      have g109 : (h38.2.1 34 1).toInt ≤ 500 := (hv38.2.1 34 1).2
      have g110 : (0 : Int) ≤ (h38.2.1 34 2).toInt := (hv38.2.1 34 2).1
      have g111 : (h38.2.1 34 2).toInt ≤ 500 := (hv38.2.1 34 2).2
      have g112 : (0 : Int) ≤ (h38.2.1 34 7).toInt := (hv38.2.1 34 7).1
      have g113 : (h38.2.1 34 7).toInt ≤ 7 := (hv38.2.1 34 7).2
      have g114 : (h38.2.1 34 1).toInt = u46.toInt := by rw [← (show u46 = h38.2.1 34 1 from u46w)] <;> exact (ti_rfl u46)
      have g115 : (h38.2.1 34 2).toInt = u48.toInt := by rw [← (show u48 = h38.2.1 34 2 from u48w)] <;> exact (ti_rfl u48)
      have g116 : (h38.2.1 34 7).toInt = u50.toInt := by rw [← (show u50 = h38.2.1 34 7 from u50w)] <;> exact (ti_rfl u50)
      refine go_invV (pc := 51) (sl := 0) (s_X3_readNumbers_f l (d + 0) hv38 a2 (by rw [show (a2 : Int32).toInt = a2.toInt from (ti_rfl a2)]; omega) (by rw [show (a2 : Int32).toInt = a2.toInt from (ti_rfl a2)]; omega)) mL_X3_193 iM_X3_readNumbers sM_X3_readNumbers (hv38.sh rfl) rfl rfl rfl (Nat.le_of_ble_eq_true rfl) (show d + 0 + 4 + 1 ≤ d + 5 by omega) (show 8 + (3 + 11) + 40 * (d + 0 + 4) ≤ 40 * (d + 5) by omega) (g_c0 hv38.ln) (Nat.le_of_ble_eq_true rfl) dX3_readAssignment_51 ?_
      intro r h117 hq _
      obtain ⟨rfl, hv117, f118, f119, f120, f121, pt117⟩ := hq
      have pr117 : PR h → PR h117 := fun z => pt117 (pr38 z)
      have fx117 : FX KC0 h h117 := FX.tr fx38 f121
      have k122 := bd_e k107 f120.symm
      obtain ⟨u123, u123w⟩ : ∃ v : Int32, v = h117.2.1 34 1 := ⟨_, rfl⟩
      have u123e : (h117.2.1 34 1).toInt = u123.toInt := by rw [u123w]
      have u123l : 0 ≤ u123.toInt := by rw [u123w]; exact (hv117.2.1 34 1).1
      have u123u : u123.toInt ≤ 500 := by rw [u123w]; exact (hv117.2.1 34 1).2
      have k124 := k122
      obtain ⟨u125, u125w⟩ : ∃ v : Int32, v = h117.2.1 34 2 := ⟨_, rfl⟩
      have u125e : (h117.2.1 34 2).toInt = u125.toInt := by rw [u125w]
      have u125l : 0 ≤ u125.toInt := by rw [u125w]; exact (hv117.2.1 34 2).1
      have u125u : u125.toInt ≤ 500 := by rw [u125w]; exact (hv117.2.1 34 2).2
      have k126 := k124
      obtain ⟨u127, u127w⟩ : ∃ v : Int32, v = h117.2.1 34 7 := ⟨_, rfl⟩
      have u127e : (h117.2.1 34 7).toInt = u127.toInt := by rw [u127w]
      have u127l : 0 ≤ u127.toInt := by rw [u127w]; exact (hv117.2.1 34 7).1
      have u127u : u127.toInt ≤ 7 := by rw [u127w]; exact (hv117.2.1 34 7).2
      have k128 := k126
      refine go_aload_n (pc := 54) rfl dX3_readAssignment_54 ?_
      refine go_bipush (pc := 55) (v := 59) (by decide) dX3_readAssignment_55 ?_
      have g129 : (0 : Int) ≤ (h117.2.1 34 1).toInt := (hv117.2.1 34 1).1
      have g130 : (h117.2.1 34 1).toInt ≤ 500 := (hv117.2.1 34 1).2
      have g131 : (0 : Int) ≤ (h117.2.1 34 2).toInt := (hv117.2.1 34 2).1
      have g132 : (h117.2.1 34 2).toInt ≤ 500 := (hv117.2.1 34 2).2
      have g133 : (0 : Int) ≤ (h117.2.1 34 7).toInt := (hv117.2.1 34 7).1
      have g134 : (h117.2.1 34 7).toInt ≤ 7 := (hv117.2.1 34 7).2
      have g135 : (h117.2.1 34 1).toInt = u123.toInt := by rw [← (show u123 = h117.2.1 34 1 from u123w)] <;> exact (ti_rfl u123)
      have g136 : (h117.2.1 34 2).toInt = u125.toInt := by rw [← (show u125 = h117.2.1 34 2 from u125w)] <;> exact (ti_rfl u125)
      have g137 : (h117.2.1 34 7).toInt = u127.toInt := by rw [← (show u127 = h117.2.1 34 7 from u127w)] <;> exact (ti_rfl u127)
      refine go_invV (pc := 57) (sl := 0) (s_X3_take_f l (d + 2) hv117 59 (by rw [show (59 : Int32).toInt = 59 from (ti_c (v := 59) (a := 59) (by decide))]; omega) (by rw [show (59 : Int32).toInt = 59 from (ti_c (v := 59) (a := 59) (by decide))]; omega)) mL_X3_181 iM_X3_take sM_X3_take (hv117.sh rfl) rfl rfl rfl (Nat.le_of_ble_eq_true rfl) (show d + 2 + 2 + 1 ≤ d + 5 by omega) (show 8 + (2 + 11) + 40 * (d + 2 + 2) ≤ 40 * (d + 5) by omega) (g_c0 hv117.ln) (Nat.le_of_ble_eq_true rfl) dX3_readAssignment_57 ?_
      intro r h138 hq _
      obtain ⟨rfl, hv138, f139, f140, f141, f142, pt138⟩ := hq
      have pr138 : PR h → PR h138 := fun z => pt138 (pr117 z)
      try rw [show (59 : Int32).toInt = 59 from (ti_c (v := 59) (a := 59) (by decide))] at f139
      try rw [show (59 : Int32).toInt = 59 from (ti_c (v := 59) (a := 59) (by decide))] at f140
      try rw [show (59 : Int32).toInt = 59 from (ti_c (v := 59) (a := 59) (by decide))] at f141
      try rw [show (59 : Int32).toInt = 59 from (ti_c (v := 59) (a := 59) (by decide))] at f142
      have fx138 : FX KC0 h h138 := FX.tr fx117 f142
      have k143 := bd_e k128 f141.symm
      obtain ⟨u144, u144w⟩ : ∃ v : Int32, v = h138.2.1 34 1 := ⟨_, rfl⟩
      have u144e : (h138.2.1 34 1).toInt = u144.toInt := by rw [u144w]
      have u144l : 0 ≤ u144.toInt := by rw [u144w]; exact (hv138.2.1 34 1).1
      have u144u : u144.toInt ≤ 500 := by rw [u144w]; exact (hv138.2.1 34 1).2
      have k145 := k143
      obtain ⟨u146, u146w⟩ : ∃ v : Int32, v = h138.2.1 34 2 := ⟨_, rfl⟩
      have u146e : (h138.2.1 34 2).toInt = u146.toInt := by rw [u146w]
      have u146l : 0 ≤ u146.toInt := by rw [u146w]; exact (hv138.2.1 34 2).1
      have u146u : u146.toInt ≤ 500 := by rw [u146w]; exact (hv138.2.1 34 2).2
      have k147 := k145
      obtain ⟨u148, u148w⟩ : ∃ v : Int32, v = h138.2.1 34 7 := ⟨_, rfl⟩
      have u148e : (h138.2.1 34 7).toInt = u148.toInt := by rw [u148w]
      have u148l : 0 ≤ u148.toInt := by rw [u148w]; exact (hv138.2.1 34 7).1
      have u148u : u148.toInt ≤ 7 := by rw [u148w]; exact (hv138.2.1 34 7).2
      have k149 := k147
      have g150 : (0 : Int) ≤ (h138.2.1 34 1).toInt := (hv138.2.1 34 1).1
      have g151 : (h138.2.1 34 1).toInt ≤ 500 := (hv138.2.1 34 1).2
      have g152 : (0 : Int) ≤ (h138.2.1 34 2).toInt := (hv138.2.1 34 2).1
      have g153 : (h138.2.1 34 2).toInt ≤ 500 := (hv138.2.1 34 2).2
      have g154 : (0 : Int) ≤ (h138.2.1 34 7).toInt := (hv138.2.1 34 7).1
      have g155 : (h138.2.1 34 7).toInt ≤ 7 := (hv138.2.1 34 7).2
      have g156 : (h138.2.1 34 1).toInt = u144.toInt := by rw [← (show u144 = h138.2.1 34 1 from u144w)] <;> exact (ti_rfl u144)
      have g157 : (h138.2.1 34 2).toInt = u146.toInt := by rw [← (show u146 = h138.2.1 34 2 from u146w)] <;> exact (ti_rfl u146)
      have g158 : (h138.2.1 34 7).toInt = u148.toInt := by rw [← (show u148 = h138.2.1 34 7 from u148w)] <;> exact (ti_rfl u148)
      exact gi_vret (pc := 60) ⟨rfl, ⟨P, hv138, (by show (0 : Int) = 0; omega), rfl, rfl, rfl⟩, (by omega), (by omega), (k149.symm.trans kf), fx138, pr138⟩ hv138 dX3_readAssignment_60
    ·
      have k159 := if_f k105 (Int.not_le.mpr q106)
      refine go_iload_n (pc := 33) rfl dX3_readAssignment_33 ?_
      refine go_invS (pc := 34) (sl := 0) (s_X7_isField_f l (d + 3) hv38 a3) mL_X3_141 iM_X7_isField rfl rfl (Nat.le_of_ble_eq_true rfl) (show d + 3 + 1 + 1 ≤ d + 5 by omega) (show 8 + (1 + 11) + 40 * (d + 3 + 1) ≤ 40 * (d + 5) by omega) (g_c0 hv38.ln) (Nat.le_of_ble_eq_true rfl) dX3_readAssignment_34 ?_
      intro r h160 hq _
      obtain ⟨v163, rfl, v163l, v163u, rfl, f164, f161, f162⟩ := hq
      replace f162 : PE _ _ := f162
      have k165 := bd_e k159 f162.symm
      refine gf_if_ne (pc := 37) (tgt := 49) (ti_rfl v163) (by decide) dX3_readAssignment_37 (fun q166 => ?_) (fun q166 => ?_)
      ·
        have k167 := if_t k165 q166
        refine go_aload_n (pc := 49) rfl dX3_readAssignment_49 ?_
        refine go_iload_n (pc := 50) rfl dX3_readAssignment_50 ?_
        have g168 : (0 : Int) ≤ (h38.2.1 34 1).toInt := (hv38.2.1 34 1).1
        have g169 : (h38.2.1 34 1).toInt ≤ 500 := (hv38.2.1 34 1).2
        have g170 : (0 : Int) ≤ (h38.2.1 34 2).toInt := (hv38.2.1 34 2).1
        have g171 : (h38.2.1 34 2).toInt ≤ 500 := (hv38.2.1 34 2).2
        have g172 : (0 : Int) ≤ (h38.2.1 34 7).toInt := (hv38.2.1 34 7).1
        have g173 : (h38.2.1 34 7).toInt ≤ 7 := (hv38.2.1 34 7).2
        have g174 : (h38.2.1 34 1).toInt = u46.toInt := by rw [← (show u46 = h38.2.1 34 1 from u46w)] <;> exact (ti_rfl u46)
        have g175 : (h38.2.1 34 2).toInt = u48.toInt := by rw [← (show u48 = h38.2.1 34 2 from u48w)] <;> exact (ti_rfl u48)
        have g176 : (h38.2.1 34 7).toInt = u50.toInt := by rw [← (show u50 = h38.2.1 34 7 from u50w)] <;> exact (ti_rfl u50)
        refine go_invV (pc := 51) (sl := 0) (s_X3_readNumbers_f l (d + 0) hv38 a2 (by rw [show (a2 : Int32).toInt = a2.toInt from (ti_rfl a2)]; omega) (by rw [show (a2 : Int32).toInt = a2.toInt from (ti_rfl a2)]; omega)) mL_X3_193 iM_X3_readNumbers sM_X3_readNumbers (hv38.sh rfl) rfl rfl rfl (Nat.le_of_ble_eq_true rfl) (show d + 0 + 4 + 1 ≤ d + 5 by omega) (show 8 + (3 + 11) + 40 * (d + 0 + 4) ≤ 40 * (d + 5) by omega) (g_c0 hv38.ln) (Nat.le_of_ble_eq_true rfl) dX3_readAssignment_51 ?_
        intro r h177 hq _
        obtain ⟨rfl, hv177, f178, f179, f180, f181, pt177⟩ := hq
        have pr177 : PR h → PR h177 := fun z => pt177 (pr38 z)
        have fx177 : FX KC0 h h177 := FX.tr fx38 f181
        have k182 := bd_e k167 f180.symm
        obtain ⟨u183, u183w⟩ : ∃ v : Int32, v = h177.2.1 34 1 := ⟨_, rfl⟩
        have u183e : (h177.2.1 34 1).toInt = u183.toInt := by rw [u183w]
        have u183l : 0 ≤ u183.toInt := by rw [u183w]; exact (hv177.2.1 34 1).1
        have u183u : u183.toInt ≤ 500 := by rw [u183w]; exact (hv177.2.1 34 1).2
        have k184 := k182
        obtain ⟨u185, u185w⟩ : ∃ v : Int32, v = h177.2.1 34 2 := ⟨_, rfl⟩
        have u185e : (h177.2.1 34 2).toInt = u185.toInt := by rw [u185w]
        have u185l : 0 ≤ u185.toInt := by rw [u185w]; exact (hv177.2.1 34 2).1
        have u185u : u185.toInt ≤ 500 := by rw [u185w]; exact (hv177.2.1 34 2).2
        have k186 := k184
        obtain ⟨u187, u187w⟩ : ∃ v : Int32, v = h177.2.1 34 7 := ⟨_, rfl⟩
        have u187e : (h177.2.1 34 7).toInt = u187.toInt := by rw [u187w]
        have u187l : 0 ≤ u187.toInt := by rw [u187w]; exact (hv177.2.1 34 7).1
        have u187u : u187.toInt ≤ 7 := by rw [u187w]; exact (hv177.2.1 34 7).2
        have k188 := k186
        refine go_aload_n (pc := 54) rfl dX3_readAssignment_54 ?_
        refine go_bipush (pc := 55) (v := 59) (by decide) dX3_readAssignment_55 ?_
        have g189 : (0 : Int) ≤ (h177.2.1 34 1).toInt := (hv177.2.1 34 1).1
        have g190 : (h177.2.1 34 1).toInt ≤ 500 := (hv177.2.1 34 1).2
        have g191 : (0 : Int) ≤ (h177.2.1 34 2).toInt := (hv177.2.1 34 2).1
        have g192 : (h177.2.1 34 2).toInt ≤ 500 := (hv177.2.1 34 2).2
        have g193 : (0 : Int) ≤ (h177.2.1 34 7).toInt := (hv177.2.1 34 7).1
        have g194 : (h177.2.1 34 7).toInt ≤ 7 := (hv177.2.1 34 7).2
        have g195 : (h177.2.1 34 1).toInt = u183.toInt := by rw [← (show u183 = h177.2.1 34 1 from u183w)] <;> exact (ti_rfl u183)
        have g196 : (h177.2.1 34 2).toInt = u185.toInt := by rw [← (show u185 = h177.2.1 34 2 from u185w)] <;> exact (ti_rfl u185)
        have g197 : (h177.2.1 34 7).toInt = u187.toInt := by rw [← (show u187 = h177.2.1 34 7 from u187w)] <;> exact (ti_rfl u187)
        refine go_invV (pc := 57) (sl := 0) (s_X3_take_f l (d + 2) hv177 59 (by rw [show (59 : Int32).toInt = 59 from (ti_c (v := 59) (a := 59) (by decide))]; omega) (by rw [show (59 : Int32).toInt = 59 from (ti_c (v := 59) (a := 59) (by decide))]; omega)) mL_X3_181 iM_X3_take sM_X3_take (hv177.sh rfl) rfl rfl rfl (Nat.le_of_ble_eq_true rfl) (show d + 2 + 2 + 1 ≤ d + 5 by omega) (show 8 + (2 + 11) + 40 * (d + 2 + 2) ≤ 40 * (d + 5) by omega) (g_c0 hv177.ln) (Nat.le_of_ble_eq_true rfl) dX3_readAssignment_57 ?_
        intro r h198 hq _
        obtain ⟨rfl, hv198, f199, f200, f201, f202, pt198⟩ := hq
        have pr198 : PR h → PR h198 := fun z => pt198 (pr177 z)
        try rw [show (59 : Int32).toInt = 59 from (ti_c (v := 59) (a := 59) (by decide))] at f199
        try rw [show (59 : Int32).toInt = 59 from (ti_c (v := 59) (a := 59) (by decide))] at f200
        try rw [show (59 : Int32).toInt = 59 from (ti_c (v := 59) (a := 59) (by decide))] at f201
        try rw [show (59 : Int32).toInt = 59 from (ti_c (v := 59) (a := 59) (by decide))] at f202
        have fx198 : FX KC0 h h198 := FX.tr fx177 f202
        have k203 := bd_e k188 f201.symm
        obtain ⟨u204, u204w⟩ : ∃ v : Int32, v = h198.2.1 34 1 := ⟨_, rfl⟩
        have u204e : (h198.2.1 34 1).toInt = u204.toInt := by rw [u204w]
        have u204l : 0 ≤ u204.toInt := by rw [u204w]; exact (hv198.2.1 34 1).1
        have u204u : u204.toInt ≤ 500 := by rw [u204w]; exact (hv198.2.1 34 1).2
        have k205 := k203
        obtain ⟨u206, u206w⟩ : ∃ v : Int32, v = h198.2.1 34 2 := ⟨_, rfl⟩
        have u206e : (h198.2.1 34 2).toInt = u206.toInt := by rw [u206w]
        have u206l : 0 ≤ u206.toInt := by rw [u206w]; exact (hv198.2.1 34 2).1
        have u206u : u206.toInt ≤ 500 := by rw [u206w]; exact (hv198.2.1 34 2).2
        have k207 := k205
        obtain ⟨u208, u208w⟩ : ∃ v : Int32, v = h198.2.1 34 7 := ⟨_, rfl⟩
        have u208e : (h198.2.1 34 7).toInt = u208.toInt := by rw [u208w]
        have u208l : 0 ≤ u208.toInt := by rw [u208w]; exact (hv198.2.1 34 7).1
        have u208u : u208.toInt ≤ 7 := by rw [u208w]; exact (hv198.2.1 34 7).2
        have k209 := k207
        have g210 : (0 : Int) ≤ (h198.2.1 34 1).toInt := (hv198.2.1 34 1).1
        have g211 : (h198.2.1 34 1).toInt ≤ 500 := (hv198.2.1 34 1).2
        have g212 : (0 : Int) ≤ (h198.2.1 34 2).toInt := (hv198.2.1 34 2).1
        have g213 : (h198.2.1 34 2).toInt ≤ 500 := (hv198.2.1 34 2).2
        have g214 : (0 : Int) ≤ (h198.2.1 34 7).toInt := (hv198.2.1 34 7).1
        have g215 : (h198.2.1 34 7).toInt ≤ 7 := (hv198.2.1 34 7).2
        have g216 : (h198.2.1 34 1).toInt = u204.toInt := by rw [← (show u204 = h198.2.1 34 1 from u204w)] <;> exact (ti_rfl u204)
        have g217 : (h198.2.1 34 2).toInt = u206.toInt := by rw [← (show u206 = h198.2.1 34 2 from u206w)] <;> exact (ti_rfl u206)
        have g218 : (h198.2.1 34 7).toInt = u208.toInt := by rw [← (show u208 = h198.2.1 34 7 from u208w)] <;> exact (ti_rfl u208)
        exact gi_vret (pc := 60) ⟨rfl, ⟨P, hv198, (by show (0 : Int) = 0; omega), rfl, rfl, rfl⟩, (by omega), (by omega), (k209.symm.trans kf), fx198, pr198⟩ hv198 dX3_readAssignment_60
      ·
        have k219 := if_f k165 (fun z => z q166)
        refine go_aload_n (pc := 40) rfl dX3_readAssignment_40 ?_
        refine go_iload_n (pc := 41) rfl dX3_readAssignment_41 ?_
        refine go_iload_n (pc := 42) rfl dX3_readAssignment_42 ?_
        have g220 : (0 : Int) ≤ (h38.2.1 34 1).toInt := (hv38.2.1 34 1).1
        have g221 : (h38.2.1 34 1).toInt ≤ 500 := (hv38.2.1 34 1).2
        have g222 : (0 : Int) ≤ (h38.2.1 34 2).toInt := (hv38.2.1 34 2).1
        have g223 : (h38.2.1 34 2).toInt ≤ 500 := (hv38.2.1 34 2).2
        have g224 : (0 : Int) ≤ (h38.2.1 34 7).toInt := (hv38.2.1 34 7).1
        have g225 : (h38.2.1 34 7).toInt ≤ 7 := (hv38.2.1 34 7).2
        have g226 : (h38.2.1 34 1).toInt = u46.toInt := by rw [← (show u46 = h38.2.1 34 1 from u46w)] <;> exact (ti_rfl u46)
        have g227 : (h38.2.1 34 2).toInt = u48.toInt := by rw [← (show u48 = h38.2.1 34 2 from u48w)] <;> exact (ti_rfl u48)
        have g228 : (h38.2.1 34 7).toInt = u50.toInt := by rw [← (show u50 = h38.2.1 34 7 from u50w)] <;> exact (ti_rfl u50)
        refine go_invV (pc := 43) (sl := 0) (s_X3_readCall_f l (d + 0) hv38 a2 (by rw [show (a2 : Int32).toInt = a2.toInt from (ti_rfl a2)]; omega) (by rw [show (a2 : Int32).toInt = a2.toInt from (ti_rfl a2)]; omega) v44 (by rw [show (v44 : Int32).toInt = v44.toInt from (ti_rfl v44)]; omega) (by rw [show (v44 : Int32).toInt = v44.toInt from (ti_rfl v44)]; omega) (by omega)) mL_X3_190 iM_X3_readCall sM_X3_readCall (hv38.sh rfl) rfl rfl rfl (Nat.le_of_ble_eq_true rfl) (show d + 0 + 4 + 1 ≤ d + 5 by omega) (show 8 + (3 + 11) + 40 * (d + 0 + 4) ≤ 40 * (d + 5) by omega) (g_c0 hv38.ln) (Nat.le_of_ble_eq_true rfl) dX3_readAssignment_43 ?_
        intro r h229 hq _
        obtain ⟨rfl, ⟨Q230, hv229, r231, r232, r233, r234⟩, f235, f236, f237, f238, pt229⟩ := hq
        have pr229 : PR h → PR h229 := fun z => pt229 (pr38 z)
        have fx229 : FX KC0 h h229 := FX.tr fx38 f238
        have k239 := bd_e k219 f237.symm
        have r231 : (0 : Int) = 0 := r231
        obtain ⟨u240, u240w⟩ : ∃ v : Int32, v = h229.2.1 34 1 := ⟨_, rfl⟩
        have u240e : (h229.2.1 34 1).toInt = u240.toInt := by rw [u240w]
        have u240l : 0 ≤ u240.toInt := by rw [u240w]; exact (hv229.2.1 34 1).1
        have u240u : u240.toInt ≤ 500 := by rw [u240w]; exact (hv229.2.1 34 1).2
        have k241 := k239
        obtain ⟨u242, u242w⟩ : ∃ v : Int32, v = h229.2.1 34 2 := ⟨_, rfl⟩
        have u242e : (h229.2.1 34 2).toInt = u242.toInt := by rw [u242w]
        have u242l : 0 ≤ u242.toInt := by rw [u242w]; exact (hv229.2.1 34 2).1
        have u242u : u242.toInt ≤ 500 := by rw [u242w]; exact (hv229.2.1 34 2).2
        have k243 := k241
        obtain ⟨u244, u244w⟩ : ∃ v : Int32, v = h229.2.1 34 7 := ⟨_, rfl⟩
        have u244e : (h229.2.1 34 7).toInt = u244.toInt := by rw [u244w]
        have u244l : 0 ≤ u244.toInt := by rw [u244w]; exact (hv229.2.1 34 7).1
        have u244u : u244.toInt ≤ 7 := by rw [u244w]; exact (hv229.2.1 34 7).2
        have k245 := k243
        refine go_goto (pc := 46) (tgt := 54) (by decide) dX3_readAssignment_46 ?_
        refine go_aload_n (pc := 54) rfl dX3_readAssignment_54 ?_
        refine go_bipush (pc := 55) (v := 59) (by decide) dX3_readAssignment_55 ?_
        have g246 : (0 : Int) ≤ (h229.2.1 34 1).toInt := (hv229.2.1 34 1).1
        have g247 : (h229.2.1 34 1).toInt ≤ 500 := (hv229.2.1 34 1).2
        have g248 : (0 : Int) ≤ (h229.2.1 34 2).toInt := (hv229.2.1 34 2).1
        have g249 : (h229.2.1 34 2).toInt ≤ 500 := (hv229.2.1 34 2).2
        have g250 : (0 : Int) ≤ (h229.2.1 34 7).toInt := (hv229.2.1 34 7).1
        have g251 : (h229.2.1 34 7).toInt ≤ 7 := (hv229.2.1 34 7).2
        have g252 : (h229.2.1 34 1).toInt = u240.toInt := by rw [← (show u240 = h229.2.1 34 1 from u240w)] <;> exact (ti_rfl u240)
        have g253 : (h229.2.1 34 2).toInt = u242.toInt := by rw [← (show u242 = h229.2.1 34 2 from u242w)] <;> exact (ti_rfl u242)
        have g254 : (h229.2.1 34 7).toInt = u244.toInt := by rw [← (show u244 = h229.2.1 34 7 from u244w)] <;> exact (ti_rfl u244)
        refine go_invV (pc := 57) (sl := 0) (s_X3_take_f l (d + 2) hv229 59 (by rw [show (59 : Int32).toInt = 59 from (ti_c (v := 59) (a := 59) (by decide))]; omega) (by rw [show (59 : Int32).toInt = 59 from (ti_c (v := 59) (a := 59) (by decide))]; omega)) mL_X3_181 iM_X3_take sM_X3_take (hv229.sh rfl) rfl rfl rfl (Nat.le_of_ble_eq_true rfl) (show d + 2 + 2 + 1 ≤ d + 5 by omega) (show 8 + (2 + 11) + 40 * (d + 2 + 2) ≤ 40 * (d + 5) by omega) (g_c0 hv229.ln) (Nat.le_of_ble_eq_true rfl) dX3_readAssignment_57 ?_
        intro r h255 hq _
        obtain ⟨rfl, hv255, f256, f257, f258, f259, pt255⟩ := hq
        have pr255 : PR h → PR h255 := fun z => pt255 (pr229 z)
        try rw [show (59 : Int32).toInt = 59 from (ti_c (v := 59) (a := 59) (by decide))] at f256
        try rw [show (59 : Int32).toInt = 59 from (ti_c (v := 59) (a := 59) (by decide))] at f257
        try rw [show (59 : Int32).toInt = 59 from (ti_c (v := 59) (a := 59) (by decide))] at f258
        try rw [show (59 : Int32).toInt = 59 from (ti_c (v := 59) (a := 59) (by decide))] at f259
        have fx255 : FX KC0 h h255 := FX.tr fx229 f259
        have k260 := bd_e k245 f258.symm
        obtain ⟨u261, u261w⟩ : ∃ v : Int32, v = h255.2.1 34 1 := ⟨_, rfl⟩
        have u261e : (h255.2.1 34 1).toInt = u261.toInt := by rw [u261w]
        have u261l : 0 ≤ u261.toInt := by rw [u261w]; exact (hv255.2.1 34 1).1
        have u261u : u261.toInt ≤ 500 := by rw [u261w]; exact (hv255.2.1 34 1).2
        have k262 := k260
        obtain ⟨u263, u263w⟩ : ∃ v : Int32, v = h255.2.1 34 2 := ⟨_, rfl⟩
        have u263e : (h255.2.1 34 2).toInt = u263.toInt := by rw [u263w]
        have u263l : 0 ≤ u263.toInt := by rw [u263w]; exact (hv255.2.1 34 2).1
        have u263u : u263.toInt ≤ 500 := by rw [u263w]; exact (hv255.2.1 34 2).2
        have k264 := k262
        obtain ⟨u265, u265w⟩ : ∃ v : Int32, v = h255.2.1 34 7 := ⟨_, rfl⟩
        have u265e : (h255.2.1 34 7).toInt = u265.toInt := by rw [u265w]
        have u265l : 0 ≤ u265.toInt := by rw [u265w]; exact (hv255.2.1 34 7).1
        have u265u : u265.toInt ≤ 7 := by rw [u265w]; exact (hv255.2.1 34 7).2
        have k266 := k264
        have g267 : (0 : Int) ≤ (h255.2.1 34 1).toInt := (hv255.2.1 34 1).1
        have g268 : (h255.2.1 34 1).toInt ≤ 500 := (hv255.2.1 34 1).2
        have g269 : (0 : Int) ≤ (h255.2.1 34 2).toInt := (hv255.2.1 34 2).1
        have g270 : (h255.2.1 34 2).toInt ≤ 500 := (hv255.2.1 34 2).2
        have g271 : (0 : Int) ≤ (h255.2.1 34 7).toInt := (hv255.2.1 34 7).1
        have g272 : (h255.2.1 34 7).toInt ≤ 7 := (hv255.2.1 34 7).2
        have g273 : (h255.2.1 34 1).toInt = u261.toInt := by rw [← (show u261 = h255.2.1 34 1 from u261w)] <;> exact (ti_rfl u261)
        have g274 : (h255.2.1 34 2).toInt = u263.toInt := by rw [← (show u263 = h255.2.1 34 2 from u263w)] <;> exact (ti_rfl u263)
        have g275 : (h255.2.1 34 7).toInt = u265.toInt := by rw [← (show u265 = h255.2.1 34 7 from u265w)] <;> exact (ti_rfl u265)
        exact gi_vret (pc := 60) ⟨rfl, ⟨Q230, hv255, (by show (0 : Int) = 0; omega), (by first | rfl | (simp only [r234, r233, r232])), (by first | rfl | (simp only [r234, r233, r232])), (by first | rfl | (simp only [r234, r233, r232]))⟩, (by omega), (by omega), (k266.symm.trans kf), fx255, pr255⟩ hv255 dX3_readAssignment_60
def f_X3_readSecond (s : ST) (a2 : Int) : ST :=
  bd2 (f_X3_look s) fun s3 v9 => bd (s3.1 34 2) fun u11 => bd (s3.1 37 (a2).toNat) fun v13 => if ¬ v13 = (-1) then (bd (s3.2.2 34 4) fun c17 => bd (s3.1 (c17 + 2) (v13).toNat) fun v19 => if ¬ v19 = 2 then (s3) else (if ¬ v9 = 58 then (s3) else (bd (sI s3 34 2 ((u11 + 1))) fun s30 => bd (f_X3_openBlock s30 a2 1) fun s35 => s35))) else (bd (f_X3_nameOf s3 v9) fun v45 => if v45 = (-1) then (bd (f_X3_blame s3 1 u11) fun s53 => s53) else (bd (f_X7_isField s3 v45) fun v67 => if v67 = 0 then (bd (sI s3 34 2 ((u11 + 1))) fun s75 => bd (sI s75 41 (a2).toNat v45) fun s77 => bd (f_X3_openBlock s77 a2 1) fun s82 => s82) else (bd (f_X3_blame s3 1 u11) fun s93 => s93)))
set_option maxHeartbeats 4000000 in
set_option maxRecDepth 100000 in
theorem s_X3_readSecond_f (l : Launch) (d : Nat) {P : PP} {h : HP} (hv : Iv P h) (a2 : Int32) (a2l : 0 ≤ a2.toInt) (a2u : a2.toInt ≤ 127) : Mt l yX3_readSecond cX3_readSecond 5 none (d + 3) [.ref 34, .int a2] h 0 0 (fun r h' => r = none ∧ Iv P h' ∧ (st h' = f_X3_readSecond (st h) a2.toInt) ∧ (FX KC0 h h') ∧ (PR h → PR h')) := by
  refine Mt_iv hv (by decide) (Nat.le_of_ble_eq_true rfl) ?_
  show Go l RX3 cX3_readSecond 5 (g_rm (d + 3) 0 0) "readSecond" none 117 0 0 (fun _ _ => True) (fun r h' => r = none ∧ Iv P h' ∧ (st h' = f_X3_readSecond (st h) a2.toInt) ∧ (FX KC0 h h') ∧ (PR h → PR h')) 0 0 [(0, .ref 34), (1, .int a2)] [] h
  have pr : PR h → PR h := id
  have fx : FX KC0 h h := FX.rfl
  obtain ⟨fin, kf⟩ : ∃ z, z = f_X3_readSecond (st h) a2.toInt := ⟨_, _root_.rfl⟩
  have k0 := kf
  unfold f_X3_readSecond at k0
  refine go_aload_n (pc := 0) rfl dX3_readSecond_0 ?_
  have g1 : (0 : Int) ≤ (h.2.1 34 2).toInt := (hv.2.1 34 2).1
  have g2 : (h.2.1 34 2).toInt ≤ 500 := (hv.2.1 34 2).2
  refine go_invV (pc := 1) (sl := 0) (s_X3_look_f l (d + 1) hv ) mL_X3_66 iM_X3_look sM_X3_look (hv.sh rfl) rfl rfl rfl (Nat.le_of_ble_eq_true rfl) (show d + 1 + 1 + 1 ≤ d + 3 by omega) (show 8 + (1 + 11) + 40 * (d + 1 + 1) ≤ 40 * (d + 3) by omega) (g_c0 hv.ln) (Nat.le_of_ble_eq_true rfl) dX3_readSecond_1 ?_
  intro r h3 hq _
  obtain ⟨v9, rfl, v9l, v9u, hv3, f4, f5, f6, f7, f8, pt3⟩ := hq
  have pr3 : PR h → PR h3 := fun z => pt3 (pr z)
  have fx3 : FX KC0 h h3 := FX.tr fx f8
  have k10 := bd2_e k0 f7
  obtain ⟨u11, u11w⟩ : ∃ v : Int32, v = h3.2.1 34 2 := ⟨_, rfl⟩
  have u11e : (h3.2.1 34 2).toInt = u11.toInt := by rw [u11w]
  have u11l : 0 ≤ u11.toInt := by rw [u11w]; exact (hv3.2.1 34 2).1
  have u11u : u11.toInt ≤ 500 := by rw [u11w]; exact (hv3.2.1 34 2).2
  have k12 := bd_e k10 (congrArg Int32.toInt u11w.symm)
  refine go_istore_n (pc := 4) (Nat.le_of_ble_eq_true rfl) dX3_readSecond_4 (go_lv (lv2 := [(0, .ref 34), (1, .int a2), (2, .int v9)]) rfl ?_)
  refine go_aload_n (pc := 5) rfl dX3_readSecond_5 ?_
  refine gi_getF (pc := 6) (q := 36) hv3 fL_X3_28 rfl (Nat.le_of_ble_eq_true rfl) rfl (hv3.rf (by decide)) dX3_readSecond_6 ?_
  refine gi_getF (pc := 9) (q := 37) hv3 fL_X3_134 rfl (Nat.le_of_ble_eq_true rfl) rfl (hv3.rf (by decide)) dX3_readSecond_9 ?_
  refine go_iload_n (pc := 12) rfl dX3_readSecond_12 ?_
  refine gi_iald (pc := 13) (lo := -1) (hi := 39) (len := 128) hv3 (ti_rfl a2) rfl (by omega) (by omega) (fun _ => rfl) dX3_readSecond_13 (fun v13 v13l v13u v13w => ?_)
  have k14 := bd_e k12 (congrArg Int32.toInt v13w.symm)
  refine go_istore_n (pc := 14) (Nat.le_of_ble_eq_true rfl) dX3_readSecond_14 (go_lv (lv2 := [(0, .ref 34), (1, .int a2), (2, .int v9), (3, .int v13)]) rfl ?_)
  refine go_iload_n (pc := 15) rfl dX3_readSecond_15 ?_
  refine go_iconst (pc := 16) (v := (-1)) (by decide) dX3_readSecond_16 ?_
  refine gf_icmp_ne (pc := 17) (tgt := 82) (ti_rfl v13) (ti_c (v := (-1)) (a := (-1)) (by decide)) (by decide) dX3_readSecond_17 (fun q15 => ?_) (fun q15 => ?_)
  ·
    have k16 := if_t k14 q15
    refine go_aload_n (pc := 82) rfl dX3_readSecond_82 ?_
    refine gi_getC (pc := 83) hv3 fL_X3_46 rfl (Nat.le_of_ble_eq_true rfl) rfl (by decide) dX3_readSecond_83 (fun c17 hc17 fc17 => ?_)
    have k18 := bd_e k16 (st_c fc17)
    refine gi_getF (pc := 86) (q := c17 + 2) hv3 fL_X3_148 (by rcases hc17 with rfl | rfl <;> rfl) (Nat.le_of_ble_eq_true rfl) rfl (by rcases hc17 with rfl | rfl <;> exact hv3.rf (by decide)) dX3_readSecond_86 ?_
    refine go_iload_n (pc := 89) rfl dX3_readSecond_89 ?_
    refine gi_iald (pc := 90) (lo := 0) (hi := 5) (len := 40) hv3 (ti_rfl v13) (by rcases hc17 with rfl | rfl <;> rfl) (by omega) (by omega) (fun _ => by rcases hc17 with rfl | rfl <;> rfl) dX3_readSecond_90 (fun v19 v19l v19u v19w => ?_)
    have k20 := bd_e k18 (congrArg Int32.toInt v19w.symm)
    refine go_iconst (pc := 91) (v := 2) (by decide) dX3_readSecond_91 ?_
    refine gf_icmp_ne (pc := 92) (tgt := 117) (ti_rfl v19) (ti_c (v := 2) (a := 2) (by decide)) (by decide) dX3_readSecond_92 (fun q21 => ?_) (fun q21 => ?_)
    ·
      have k22 := if_t k20 q21
      exact gi_vret (pc := 117) ⟨rfl, hv3, (k22.symm.trans kf), fx3, pr3⟩ hv3 dX3_readSecond_117
    ·
      have k23 := if_f k20 (fun z => z q21)
      refine go_iload_n (pc := 95) rfl dX3_readSecond_95 ?_
      refine go_bipush (pc := 96) (v := 58) (by decide) dX3_readSecond_96 ?_
      refine gf_icmp_ne (pc := 98) (tgt := 117) (ti_rfl v9) (ti_c (v := 58) (a := 58) (by decide)) (by decide) dX3_readSecond_98 (fun q24 => ?_) (fun q24 => ?_)
      ·
        have k25 := if_t k23 q24
        exact gi_vret (pc := 117) ⟨rfl, hv3, (k25.symm.trans kf), fx3, pr3⟩ hv3 dX3_readSecond_117
      ·
        have k26 := if_f k23 (fun z => z q24)
        refine go_aload_n (pc := 101) rfl dX3_readSecond_101 ?_
        refine go_dup (pc := 102) rfl dX3_readSecond_102 ?_
        refine gi_get (pc := 103) (lo := 0) (hi := 500) hv3 fL_X3_19 rfl (Nat.le_of_ble_eq_true rfl) rfl rfl dX3_readSecond_103 (fun v27 v27l v27u v27w => ?_)
        have v27r : u11 = h3.2.1 34 2 := u11w
        have v27q : TI v27 u11.toInt := by rw [v27w.trans v27r.symm]; exact (ti_rfl u11)
        refine go_iconst (pc := 106) (v := 1) (by decide) dX3_readSecond_106 ?_
        refine gf_iadd (pc := 107) v27q (ti_c (v := 1) (a := 1) (by decide)) (by omega) (by omega) dX3_readSecond_107 (fun v28 e29 => ?_)
        refine gi_put (pc := 108) (lo := 0) (hi := 500) hv3 e29 (fP_X3_19 _) rfl (Nat.le_of_ble_eq_true rfl) rfl rfl (by omega) (by omega) rfl rfl (by decide) (by decide) (by decide) (by decide) dX3_readSecond_108 (fun h30 hv30 hv30e => ?_)
        have pr30 : PR h → PR h30 := fun z => by rw [hv30e]; exact PR.put hv3 (pr3 z) (by omega)
        have fx30 : FX KC0 h h30 := FX.pI fx3 hv30e (by unfold KC0; omega)
        have k31 := bd_e k26 (st_I hv30e e29)
        refine go_aload_n (pc := 111) rfl dX3_readSecond_111 ?_
        refine go_iload_n (pc := 112) rfl dX3_readSecond_112 ?_
        refine go_iconst (pc := 113) (v := 1) (by decide) dX3_readSecond_113 ?_
        have g32 : (0 : Int) ≤ (h30.2.1 34 2).toInt := (hv30.2.1 34 2).1
        have g33 : (h30.2.1 34 2).toInt ≤ 500 := (hv30.2.1 34 2).2
        have g34 : (h30.2.1 34 2).toInt = (u11.toInt + 1) := by rw [← (show v28 = h30.2.1 34 2 from (show v28 = h30.2.1 34 2 from by rw [hv30e]; exact g_iS.symm))] <;> exact e29
        refine go_invV (pc := 114) (sl := 0) (s_X3_openBlock_f l (d + 0) hv30 a2 (by rw [show (a2 : Int32).toInt = a2.toInt from (ti_rfl a2)]; omega) (by rw [show (a2 : Int32).toInt = a2.toInt from (ti_rfl a2)]; omega) 1 (by rw [show (1 : Int32).toInt = 1 from (ti_c (v := 1) (a := 1) (by decide))]; omega) (by rw [show (1 : Int32).toInt = 1 from (ti_c (v := 1) (a := 1) (by decide))]; omega)) mL_X3_118 iM_X3_openBlock sM_X3_openBlock (hv30.sh rfl) rfl rfl rfl (Nat.le_of_ble_eq_true rfl) (show d + 0 + 2 + 1 ≤ d + 3 by omega) (show 8 + (3 + 11) + 40 * (d + 0 + 2) ≤ 40 * (d + 3) by omega) (g_c0 hv30.ln) (Nat.le_of_ble_eq_true rfl) dX3_readSecond_114 ?_
        intro r h35 hq _
        obtain ⟨rfl, hv35, f36, f37, pt35⟩ := hq
        have pr35 : PR h → PR h35 := fun z => pt35 (pr30 z)
        try rw [show (1 : Int32).toInt = 1 from (ti_c (v := 1) (a := 1) (by decide))] at f36
        try rw [show (1 : Int32).toInt = 1 from (ti_c (v := 1) (a := 1) (by decide))] at f37
        have fx35 : FX KC0 h h35 := FX.tr fx30 f37
        have k38 := bd_e k31 f36.symm
        obtain ⟨u39, u39w⟩ : ∃ v : Int32, v = h35.2.1 34 2 := ⟨_, rfl⟩
        have u39e : (h35.2.1 34 2).toInt = u39.toInt := by rw [u39w]
        have u39l : 0 ≤ u39.toInt := by rw [u39w]; exact (hv35.2.1 34 2).1
        have u39u : u39.toInt ≤ 500 := by rw [u39w]; exact (hv35.2.1 34 2).2
        have k40 := k38
        exact gi_vret (pc := 117) ⟨rfl, hv35, (k40.symm.trans kf), fx35, pr35⟩ hv35 dX3_readSecond_117
  ·
    have k41 := if_f k14 (fun z => z q15)
    refine go_iload_n (pc := 20) rfl dX3_readSecond_20 ?_
    refine go_invS (pc := 21) (sl := 0) (s_X3_nameOf_f l (d + 1) hv3 v9) mL_X3_137 iM_X3_nameOf rfl rfl (Nat.le_of_ble_eq_true rfl) (show d + 1 + 1 + 1 ≤ d + 3 by omega) (show 8 + (1 + 11) + 40 * (d + 1 + 1) ≤ 40 * (d + 3) by omega) (g_c0 hv3.ln) (Nat.le_of_ble_eq_true rfl) dX3_readSecond_21 ?_
    intro r h42 hq _
    obtain ⟨v45, rfl, v45l, v45u, rfl, f43, f44⟩ := hq
    replace f44 : PE _ _ := f44
    have k46 := bd_e k41 f44.symm
    refine go_istore (pc := 24) (Nat.le_of_ble_eq_true rfl) dX3_readSecond_24 (go_lv (lv2 := [(0, .ref 34), (1, .int a2), (2, .int v9), (3, .int v13), (4, .int v45)]) rfl ?_)
    refine go_iload (pc := 26) rfl dX3_readSecond_26 ?_
    refine go_iconst (pc := 28) (v := (-1)) (by decide) dX3_readSecond_28 ?_
    refine gf_icmp_eq (pc := 29) (tgt := 40) (ti_rfl v45) (ti_c (v := (-1)) (a := (-1)) (by decide)) (by decide) dX3_readSecond_29 (fun q47 => ?_) (fun q47 => ?_)
    ·
      have k48 := if_t k46 q47
      refine go_aload_n (pc := 40) rfl dX3_readSecond_40 ?_
      refine go_iconst (pc := 41) (v := 1) (by decide) dX3_readSecond_41 ?_
      refine go_aload_n (pc := 42) rfl dX3_readSecond_42 ?_
      refine gi_get (pc := 43) (lo := 0) (hi := 500) hv3 fL_X3_19 rfl (Nat.le_of_ble_eq_true rfl) rfl rfl dX3_readSecond_43 (fun v49 v49l v49u v49w => ?_)
      have v49r : u11 = h3.2.1 34 2 := u11w
      have v49q : TI v49 u11.toInt := by rw [v49w.trans v49r.symm]; exact (ti_rfl u11)
      have g50 : (0 : Int) ≤ (h3.2.1 34 2).toInt := (hv3.2.1 34 2).1
      have g51 : (h3.2.1 34 2).toInt ≤ 500 := (hv3.2.1 34 2).2
      have g52 : (h3.2.1 34 2).toInt = u11.toInt := by rw [← (show u11 = h3.2.1 34 2 from u11w)] <;> exact (ti_rfl u11)
      refine go_invV (pc := 46) (sl := 0) (s_X3_blame_f l (d + 1) hv3 1 (by rw [show (1 : Int32).toInt = 1 from (ti_c (v := 1) (a := 1) (by decide))]; omega) (by rw [show (1 : Int32).toInt = 1 from (ti_c (v := 1) (a := 1) (by decide))]; omega) v49 (by rw [show (v49 : Int32).toInt = u11.toInt from v49q]; omega) (by rw [show (v49 : Int32).toInt = u11.toInt from v49q]; omega)) mL_X3_101 iM_X3_blame sM_X3_blame (hv3.sh rfl) rfl rfl rfl (Nat.le_of_ble_eq_true rfl) (show d + 1 + 1 + 1 ≤ d + 3 by omega) (show 8 + (3 + 11) + 40 * (d + 1 + 1) ≤ 40 * (d + 3) by omega) (g_c0 hv3.ln) (Nat.le_of_ble_eq_true rfl) dX3_readSecond_46 ?_
      intro r h53 hq _
      obtain ⟨rfl, hv53, f54, f55, f56, f57, f58, f59, pt53⟩ := hq
      have pr53 : PR h → PR h53 := fun z => pt53 (pr3 z)
      try rw [show (1 : Int32).toInt = 1 from (ti_c (v := 1) (a := 1) (by decide))] at f54
      try rw [show (v49 : Int32).toInt = u11.toInt from v49q] at f54
      try rw [show (1 : Int32).toInt = 1 from (ti_c (v := 1) (a := 1) (by decide))] at f55
      try rw [show (v49 : Int32).toInt = u11.toInt from v49q] at f55
      try rw [show (1 : Int32).toInt = 1 from (ti_c (v := 1) (a := 1) (by decide))] at f56
      try rw [show (v49 : Int32).toInt = u11.toInt from v49q] at f56
      try rw [show (1 : Int32).toInt = 1 from (ti_c (v := 1) (a := 1) (by decide))] at f57
      try rw [show (v49 : Int32).toInt = u11.toInt from v49q] at f57
      try rw [show (1 : Int32).toInt = 1 from (ti_c (v := 1) (a := 1) (by decide))] at f58
      try rw [show (v49 : Int32).toInt = u11.toInt from v49q] at f58
      try rw [show (1 : Int32).toInt = 1 from (ti_c (v := 1) (a := 1) (by decide))] at f59
      try rw [show (v49 : Int32).toInt = u11.toInt from v49q] at f59
      have fx53 : FX KC0 h h53 := FX.tr fx3 f59
      have k60 := bd_e k48 f58.symm
      obtain ⟨u61, u61w⟩ : ∃ v : Int32, v = h53.2.1 34 2 := ⟨_, rfl⟩
      have u61e : (h53.2.1 34 2).toInt = u61.toInt := by rw [u61w]
      have u61l : 0 ≤ u61.toInt := by rw [u61w]; exact (hv53.2.1 34 2).1
      have u61u : u61.toInt ≤ 500 := by rw [u61w]; exact (hv53.2.1 34 2).2
      have k62 := k60
      refine go_goto (pc := 49) (tgt := 79) (by decide) dX3_readSecond_49 ?_
      refine go_goto (pc := 79) (tgt := 117) (by decide) dX3_readSecond_79 ?_
      exact gi_vret (pc := 117) ⟨rfl, hv53, (k62.symm.trans kf), fx53, pr53⟩ hv53 dX3_readSecond_117
    ·
      have k63 := if_f k46 q47
      refine go_iload (pc := 32) rfl dX3_readSecond_32 ?_
      refine go_invS (pc := 34) (sl := 0) (s_X7_isField_f l (d + 1) hv3 v45) mL_X3_141 iM_X7_isField rfl rfl (Nat.le_of_ble_eq_true rfl) (show d + 1 + 1 + 1 ≤ d + 3 by omega) (show 8 + (1 + 11) + 40 * (d + 1 + 1) ≤ 40 * (d + 3) by omega) (g_c0 hv3.ln) (Nat.le_of_ble_eq_true rfl) dX3_readSecond_34 ?_
      intro r h64 hq _
      obtain ⟨v67, rfl, v67l, v67u, rfl, f68, f65, f66⟩ := hq
      replace f66 : PE _ _ := f66
      have k69 := bd_e k63 f66.symm
      refine gf_if_eq (pc := 37) (tgt := 52) (ti_rfl v67) (by decide) dX3_readSecond_37 (fun q70 => ?_) (fun q70 => ?_)
      ·
        have k71 := if_t k69 q70
        refine go_aload_n (pc := 52) rfl dX3_readSecond_52 ?_
        refine go_dup (pc := 53) rfl dX3_readSecond_53 ?_
        refine gi_get (pc := 54) (lo := 0) (hi := 500) hv3 fL_X3_19 rfl (Nat.le_of_ble_eq_true rfl) rfl rfl dX3_readSecond_54 (fun v72 v72l v72u v72w => ?_)
        have v72r : u11 = h3.2.1 34 2 := u11w
        have v72q : TI v72 u11.toInt := by rw [v72w.trans v72r.symm]; exact (ti_rfl u11)
        refine go_iconst (pc := 57) (v := 1) (by decide) dX3_readSecond_57 ?_
        refine gf_iadd (pc := 58) v72q (ti_c (v := 1) (a := 1) (by decide)) (by omega) (by omega) dX3_readSecond_58 (fun v73 e74 => ?_)
        refine gi_put (pc := 59) (lo := 0) (hi := 500) hv3 e74 (fP_X3_19 _) rfl (Nat.le_of_ble_eq_true rfl) rfl rfl (by omega) (by omega) rfl rfl (by decide) (by decide) (by decide) (by decide) dX3_readSecond_59 (fun h75 hv75 hv75e => ?_)
        have pr75 : PR h → PR h75 := fun z => by rw [hv75e]; exact PR.put hv3 (pr3 z) (by omega)
        have fx75 : FX KC0 h h75 := FX.pI fx3 hv75e (by unfold KC0; omega)
        have k76 := bd_e k71 (st_I hv75e e74)
        refine go_aload_n (pc := 62) rfl dX3_readSecond_62 ?_
        refine gi_getF (pc := 63) (q := 36) hv75 fL_X3_28 rfl (Nat.le_of_ble_eq_true rfl) rfl (hv75.rf (by decide)) dX3_readSecond_63 ?_
        refine gi_getF (pc := 66) (q := 41) hv75 fL_X3_145 rfl (Nat.le_of_ble_eq_true rfl) rfl (hv75.rf (by decide)) dX3_readSecond_66 ?_
        refine go_iload_n (pc := 69) rfl dX3_readSecond_69 ?_
        refine go_iload (pc := 70) rfl dX3_readSecond_70 ?_
        refine gi_iast (pc := 72) (lo := -1) (hi := 5) (len := 128) hv75 (ti_rfl a2) (ti_rfl v45) rfl (by omega) (by omega) (fun _ => rfl) (by omega) (by omega) (by decide) dX3_readSecond_72 (fun h77 hv77 hv77e => ?_)
        have pr77 : PR h → PR h77 := fun z => by rw [hv77e]; exact PR.put hv75 (pr75 z) (by omega)
        have fx77 : FX KC0 h h77 := FX.pI fx75 hv77e (by unfold KC0; omega)
        have k78 := bd_e k76 (st_I hv77e (ti_rfl v45))
        refine go_aload_n (pc := 73) rfl dX3_readSecond_73 ?_
        refine go_iload_n (pc := 74) rfl dX3_readSecond_74 ?_
        refine go_iconst (pc := 75) (v := 1) (by decide) dX3_readSecond_75 ?_
        have g79 : (0 : Int) ≤ (h77.2.1 34 2).toInt := (hv77.2.1 34 2).1
        have g80 : (h77.2.1 34 2).toInt ≤ 500 := (hv77.2.1 34 2).2
        have g81 : (h77.2.1 34 2).toInt = (u11.toInt + 1) := by rw [← (show v73 = h77.2.1 34 2 from (show v73 = h77.2.1 34 2 from by rw [hv77e]; exact (g_iI rfl (show v73 = h75.2.1 34 2 from by rw [hv75e]; exact g_iS.symm).symm).symm))] <;> exact e74
        refine go_invV (pc := 76) (sl := 0) (s_X3_openBlock_f l (d + 0) hv77 a2 (by rw [show (a2 : Int32).toInt = a2.toInt from (ti_rfl a2)]; omega) (by rw [show (a2 : Int32).toInt = a2.toInt from (ti_rfl a2)]; omega) 1 (by rw [show (1 : Int32).toInt = 1 from (ti_c (v := 1) (a := 1) (by decide))]; omega) (by rw [show (1 : Int32).toInt = 1 from (ti_c (v := 1) (a := 1) (by decide))]; omega)) mL_X3_118 iM_X3_openBlock sM_X3_openBlock (hv77.sh rfl) rfl rfl rfl (Nat.le_of_ble_eq_true rfl) (show d + 0 + 2 + 1 ≤ d + 3 by omega) (show 8 + (3 + 11) + 40 * (d + 0 + 2) ≤ 40 * (d + 3) by omega) (g_c0 hv77.ln) (Nat.le_of_ble_eq_true rfl) dX3_readSecond_76 ?_
        intro r h82 hq _
        obtain ⟨rfl, hv82, f83, f84, pt82⟩ := hq
        have pr82 : PR h → PR h82 := fun z => pt82 (pr77 z)
        try rw [show (1 : Int32).toInt = 1 from (ti_c (v := 1) (a := 1) (by decide))] at f83
        try rw [show (1 : Int32).toInt = 1 from (ti_c (v := 1) (a := 1) (by decide))] at f84
        have fx82 : FX KC0 h h82 := FX.tr fx77 f84
        have k85 := bd_e k78 f83.symm
        obtain ⟨u86, u86w⟩ : ∃ v : Int32, v = h82.2.1 34 2 := ⟨_, rfl⟩
        have u86e : (h82.2.1 34 2).toInt = u86.toInt := by rw [u86w]
        have u86l : 0 ≤ u86.toInt := by rw [u86w]; exact (hv82.2.1 34 2).1
        have u86u : u86.toInt ≤ 500 := by rw [u86w]; exact (hv82.2.1 34 2).2
        have k87 := k85
        refine go_goto (pc := 79) (tgt := 117) (by decide) dX3_readSecond_79 ?_
        exact gi_vret (pc := 117) ⟨rfl, hv82, (k87.symm.trans kf), fx82, pr82⟩ hv82 dX3_readSecond_117
      ·
        have k88 := if_f k69 q70
        refine go_aload_n (pc := 40) rfl dX3_readSecond_40 ?_
        refine go_iconst (pc := 41) (v := 1) (by decide) dX3_readSecond_41 ?_
        refine go_aload_n (pc := 42) rfl dX3_readSecond_42 ?_
        refine gi_get (pc := 43) (lo := 0) (hi := 500) hv3 fL_X3_19 rfl (Nat.le_of_ble_eq_true rfl) rfl rfl dX3_readSecond_43 (fun v89 v89l v89u v89w => ?_)
        have v89r : u11 = h3.2.1 34 2 := u11w
        have v89q : TI v89 u11.toInt := by rw [v89w.trans v89r.symm]; exact (ti_rfl u11)
        have g90 : (0 : Int) ≤ (h3.2.1 34 2).toInt := (hv3.2.1 34 2).1
        have g91 : (h3.2.1 34 2).toInt ≤ 500 := (hv3.2.1 34 2).2
        have g92 : (h3.2.1 34 2).toInt = u11.toInt := by rw [← (show u11 = h3.2.1 34 2 from u11w)] <;> exact (ti_rfl u11)
        refine go_invV (pc := 46) (sl := 0) (s_X3_blame_f l (d + 1) hv3 1 (by rw [show (1 : Int32).toInt = 1 from (ti_c (v := 1) (a := 1) (by decide))]; omega) (by rw [show (1 : Int32).toInt = 1 from (ti_c (v := 1) (a := 1) (by decide))]; omega) v89 (by rw [show (v89 : Int32).toInt = u11.toInt from v89q]; omega) (by rw [show (v89 : Int32).toInt = u11.toInt from v89q]; omega)) mL_X3_101 iM_X3_blame sM_X3_blame (hv3.sh rfl) rfl rfl rfl (Nat.le_of_ble_eq_true rfl) (show d + 1 + 1 + 1 ≤ d + 3 by omega) (show 8 + (3 + 11) + 40 * (d + 1 + 1) ≤ 40 * (d + 3) by omega) (g_c0 hv3.ln) (Nat.le_of_ble_eq_true rfl) dX3_readSecond_46 ?_
        intro r h93 hq _
        obtain ⟨rfl, hv93, f94, f95, f96, f97, f98, f99, pt93⟩ := hq
        have pr93 : PR h → PR h93 := fun z => pt93 (pr3 z)
        try rw [show (1 : Int32).toInt = 1 from (ti_c (v := 1) (a := 1) (by decide))] at f94
        try rw [show (v89 : Int32).toInt = u11.toInt from v89q] at f94
        try rw [show (1 : Int32).toInt = 1 from (ti_c (v := 1) (a := 1) (by decide))] at f95
        try rw [show (v89 : Int32).toInt = u11.toInt from v89q] at f95
        try rw [show (1 : Int32).toInt = 1 from (ti_c (v := 1) (a := 1) (by decide))] at f96
        try rw [show (v89 : Int32).toInt = u11.toInt from v89q] at f96
        try rw [show (1 : Int32).toInt = 1 from (ti_c (v := 1) (a := 1) (by decide))] at f97
        try rw [show (v89 : Int32).toInt = u11.toInt from v89q] at f97
        try rw [show (1 : Int32).toInt = 1 from (ti_c (v := 1) (a := 1) (by decide))] at f98
        try rw [show (v89 : Int32).toInt = u11.toInt from v89q] at f98
        try rw [show (1 : Int32).toInt = 1 from (ti_c (v := 1) (a := 1) (by decide))] at f99
        try rw [show (v89 : Int32).toInt = u11.toInt from v89q] at f99
        have fx93 : FX KC0 h h93 := FX.tr fx3 f99
        have k100 := bd_e k88 f98.symm
        obtain ⟨u101, u101w⟩ : ∃ v : Int32, v = h93.2.1 34 2 := ⟨_, rfl⟩
        have u101e : (h93.2.1 34 2).toInt = u101.toInt := by rw [u101w]
        have u101l : 0 ≤ u101.toInt := by rw [u101w]; exact (hv93.2.1 34 2).1
        have u101u : u101.toInt ≤ 500 := by rw [u101w]; exact (hv93.2.1 34 2).2
        have k102 := k100
        refine go_goto (pc := 49) (tgt := 79) (by decide) dX3_readSecond_49 ?_
        refine go_goto (pc := 79) (tgt := 117) (by decide) dX3_readSecond_79 ?_
        exact gi_vret (pc := 117) ⟨rfl, hv93, (k102.symm.trans kf), fx93, pr93⟩ hv93 dX3_readSecond_117
def f_X3_readStatement (s : ST) (a2 : Int) : ST :=
  bd (s.1 34 2) fun u34_2 => bd (s.1 34 7) fun u34_7 => bd (f_X3_kindBegunBy s a2) fun v7 => if ¬ v7 = (-1) then (bd (s.2.2 34 4) fun c11 => bd (s.1 c11 0) fun v13 => if v13 < 40 then (bd (s.2.2 34 4) fun c17 => bd (s.2.2 34 4) fun c19 => bd (s.1 c19 1) fun v21 => bd2 (f_X0_add s c17 v7 ((v21 - 1)) ((u34_7 - 1)) u34_2) fun s35 v46 => bd2 (f_X3_addItem s35 v46) fun s58 v64 => bd (s58.1 34 2) fun u66 => bd (sI s58 34 2 ((u66 + 1))) fun s73 => if ¬ v7 = 0 then (if v7 = 2 then (bd (f_X3_readCondition s73 v46 v64) fun s85 => s85) else (if ¬ v7 = 3 then (bd (s73.2.2 34 4) fun c96 => bd2 (f_X3_readOperand s73) fun s104 v109 => bd (sI s104 (c96 + 9) (v46).toNat v109) fun s115 => bd (f_X3_take s115 59) fun s123 => s123) else (bd (f_X3_readCondition s73 v46 v64) fun s140 => s140))) else (bd (f_X3_nameOf s73 a2) fun v152 => bd (f_X3_readAssignment s73 v46 v152) fun s160 => s160)) else (bd (f_X3_blame s 4 u34_2) fun s183 => s183)) else (bd (f_X3_blame s 1 u34_2) fun s203 => s203)
set_option maxHeartbeats 4000000 in
set_option maxRecDepth 100000 in
theorem s_X3_readStatement_f (l : Launch) (d : Nat) {P : PP} {h : HP} (hv : Iv P h) (a2 : Int32) (a2l : -1 ≤ a2.toInt) (a2u : a2.toInt ≤ 255) (hp : 1 ≤ (h.2.1 34 7).toInt) (hp2 : 0 ≤ a2.toInt → (h.2.1 34 2).toInt ≤ 499) : Mt l yX3_readStatement cX3_readStatement 5 none (d + 6) [.ref 34, .int a2] h 0 0 (fun r h' => r = none ∧ (∃ Q : PP, Iv Q h' ∧ ((0 : Int) = 0) ∧ Q.1 = P.1 ∧ Q.2.1 = P.2.1 ∧ Q.2.2.2 = P.2.2.2) ∧ (st h' = f_X3_readStatement (st h) a2.toInt) ∧ (FX KC0 h h') ∧ (PR h → PR h')) := by
  refine Mt_iv hv (by decide) (Nat.le_of_ble_eq_true rfl) ?_
  show Go l RX3 cX3_readStatement 5 (g_rm (d + 6) 0 0) "readStatement" none 117 0 0 (fun _ _ => True) (fun r h' => r = none ∧ (∃ Q : PP, Iv Q h' ∧ ((0 : Int) = 0) ∧ Q.1 = P.1 ∧ Q.2.1 = P.2.1 ∧ Q.2.2.2 = P.2.2.2) ∧ (st h' = f_X3_readStatement (st h) a2.toInt) ∧ (FX KC0 h h') ∧ (PR h → PR h')) 0 0 [(0, .ref 34), (1, .int a2)] [] h
  have pr : PR h → PR h := id
  have fx : FX KC0 h h := FX.rfl
  obtain ⟨fin, kf⟩ : ∃ z, z = f_X3_readStatement (st h) a2.toInt := ⟨_, _root_.rfl⟩
  have k0 := kf
  unfold f_X3_readStatement at k0
  obtain ⟨u34_2, u34_2w⟩ : ∃ v : Int32, v = h.2.1 34 2 := ⟨_, rfl⟩
  have u34_2e : (h.2.1 34 2).toInt = u34_2.toInt := by rw [u34_2w]
  have u34_2l : 0 ≤ u34_2.toInt := by rw [u34_2w]; exact (hv.2.1 34 2).1
  have u34_2u : u34_2.toInt ≤ 500 := by rw [u34_2w]; exact (hv.2.1 34 2).2
  obtain ⟨u34_7, u34_7w⟩ : ∃ v : Int32, v = h.2.1 34 7 := ⟨_, rfl⟩
  have u34_7e : (h.2.1 34 7).toInt = u34_7.toInt := by rw [u34_7w]
  have u34_7l : 0 ≤ u34_7.toInt := by rw [u34_7w]; exact (hv.2.1 34 7).1
  have u34_7u : u34_7.toInt ≤ 7 := by rw [u34_7w]; exact (hv.2.1 34 7).2
  have k1 := bd_e k0 (congrArg Int32.toInt u34_2w.symm)
  have k2 := bd_e k1 (congrArg Int32.toInt u34_7w.symm)
  refine go_iload_n (pc := 0) rfl dX3_readStatement_0 ?_
  refine go_invS (pc := 1) (sl := 0) (s_X3_kindBegunBy_f l (d + 3) hv a2) mL_X3_160 iM_X3_kindBegunBy rfl rfl (Nat.le_of_ble_eq_true rfl) (show d + 3 + 2 + 1 ≤ d + 6 by omega) (show 8 + (1 + 11) + 40 * (d + 3 + 2) ≤ 40 * (d + 6) by omega) (g_c0 hv.ln) (Nat.le_of_ble_eq_true rfl) dX3_readStatement_1 ?_
  intro r h3 hq _
  obtain ⟨v7, rfl, v7l, v7u, rfl, f4, f5, f6⟩ := hq
  replace f6 : PE _ _ := f6
  have k8 := bd_e k2 f6.symm
  refine go_istore_n (pc := 4) (Nat.le_of_ble_eq_true rfl) dX3_readStatement_4 (go_lv (lv2 := [(0, .ref 34), (1, .int a2), (2, .int v7)]) rfl ?_)
  refine go_iload_n (pc := 5) rfl dX3_readStatement_5 ?_
  refine go_iconst (pc := 6) (v := (-1)) (by decide) dX3_readStatement_6 ?_
  refine gf_icmp_ne (pc := 7) (tgt := 20) (ti_rfl v7) (ti_c (v := (-1)) (a := (-1)) (by decide)) (by decide) dX3_readStatement_7 (fun q9 => ?_) (fun q9 => ?_)
  ·
    have k10 := if_t k8 q9
    refine go_aload_n (pc := 20) rfl dX3_readStatement_20 ?_
    refine gi_getC (pc := 21) hv fL_X3_46 rfl (Nat.le_of_ble_eq_true rfl) rfl (by decide) dX3_readStatement_21 (fun c11 hc11 fc11 => ?_)
    have k12 := bd_e k10 (st_c fc11)
    refine gi_get (pc := 24) (lo := 0) (hi := 40) hv fL_X3_163 (by rcases hc11 with rfl | rfl <;> rfl) (Nat.le_of_ble_eq_true rfl) rfl (by rcases hc11 with rfl | rfl <;> rfl) dX3_readStatement_24 (fun v13 v13l v13u v13w => ?_)
    have k14 := bd_e k12 (congrArg Int32.toInt v13w.symm)
    refine go_bipush (pc := 27) (v := 40) (by decide) dX3_readStatement_27 ?_
    refine gf_icmp_lt (pc := 29) (tgt := 42) (ti_rfl v13) (ti_c (v := 40) (a := 40) (by decide)) (by decide) dX3_readStatement_29 (fun q15 => ?_) (fun q15 => ?_)
    ·
      have k16 := if_t k14 q15
      refine go_aload_n (pc := 42) rfl dX3_readStatement_42 ?_
      refine gi_getC (pc := 43) hv fL_X3_46 rfl (Nat.le_of_ble_eq_true rfl) rfl (by decide) dX3_readStatement_43 (fun c17 hc17 fc17 => ?_)
      have k18 := bd_e k16 (st_c fc17)
      refine go_iload_n (pc := 46) rfl dX3_readStatement_46 ?_
      refine go_aload_n (pc := 47) rfl dX3_readStatement_47 ?_
      refine gi_getC (pc := 48) hv fL_X3_46 rfl (Nat.le_of_ble_eq_true rfl) rfl (by decide) dX3_readStatement_48 (fun c19 hc19 fc19 => ?_)
      have k20 := bd_e k18 (st_c fc19)
      refine gi_get (pc := 51) (lo := 0) (hi := 5) hv fL_X3_115 (by rcases hc19 with rfl | rfl <;> rfl) (Nat.le_of_ble_eq_true rfl) rfl (by rcases hc19 with rfl | rfl <;> rfl) dX3_readStatement_51 (fun v21 v21l v21u v21w => ?_)
      have k22 := bd_e k20 (congrArg Int32.toInt v21w.symm)
      refine go_iconst (pc := 54) (v := 1) (by decide) dX3_readStatement_54 ?_
      refine gf_isub (pc := 55) (ti_rfl v21) (ti_c (v := 1) (a := 1) (by decide)) (by omega) (by omega) dX3_readStatement_55 (fun v23 e24 => ?_)
      refine go_aload_n (pc := 56) rfl dX3_readStatement_56 ?_
      refine gi_get (pc := 57) (lo := 0) (hi := 7) hv fL_X3_32 rfl (Nat.le_of_ble_eq_true rfl) rfl rfl dX3_readStatement_57 (fun v25 v25l v25u v25w => ?_)
      have v25r : u34_7 = h.2.1 34 7 := u34_7w
      have v25q : TI v25 u34_7.toInt := by rw [v25w.trans v25r.symm]; exact (ti_rfl u34_7)
      refine go_iconst (pc := 60) (v := 1) (by decide) dX3_readStatement_60 ?_
      refine gf_isub (pc := 61) v25q (ti_c (v := 1) (a := 1) (by decide)) (by omega) (by omega) dX3_readStatement_61 (fun v26 e27 => ?_)
      refine go_aload_n (pc := 62) rfl dX3_readStatement_62 ?_
      refine gi_get (pc := 63) (lo := 0) (hi := 500) hv fL_X3_19 rfl (Nat.le_of_ble_eq_true rfl) rfl rfl dX3_readStatement_63 (fun v28 v28l v28u v28w => ?_)
      have v28r : u34_2 = h.2.1 34 2 := u34_2w
      have v28q : TI v28 u34_2.toInt := by rw [v28w.trans v28r.symm]; exact (ti_rfl u34_2)
      have g29 : (0 : Int) ≤ (h.2.1 34 2).toInt := (hv.2.1 34 2).1
      have g30 : (h.2.1 34 2).toInt ≤ 500 := (hv.2.1 34 2).2
      have g31 : (0 : Int) ≤ (h.2.1 34 7).toInt := (hv.2.1 34 7).1
      have g32 : (h.2.1 34 7).toInt ≤ 7 := (hv.2.1 34 7).2
      have g33 : (h.2.1 34 2).toInt = u34_2.toInt := by rw [← (show u34_2 = h.2.1 34 2 from u34_2w)] <;> exact (ti_rfl u34_2)
      have g34 : (h.2.1 34 7).toInt = u34_7.toInt := by rw [← (show u34_7 = h.2.1 34 7 from u34_7w)] <;> exact (ti_rfl u34_7)
      refine go_invV (pc := 66) (sl := 0) (s_X0_add_f l (d + 4) hv c17 hc17 v7 (by rw [show (v7 : Int32).toInt = v7.toInt from (ti_rfl v7)]; omega) (by rw [show (v7 : Int32).toInt = v7.toInt from (ti_rfl v7)]; omega) v23 (by rw [show (v23 : Int32).toInt = (v21.toInt - 1) from e24]; omega) (by rw [show (v23 : Int32).toInt = (v21.toInt - 1) from e24]; omega) v26 v28 (by omega) (by have e := fc11.symm.trans fc17; cases e; rw [← v13w]; omega)) mL_X3_166 iM_X0_add sM_X0_add (hv.sh (by rcases hc17 with rfl | rfl <;> rfl)) rfl rfl rfl (Nat.le_of_ble_eq_true rfl) (show d + 4 + 1 + 1 ≤ d + 6 by omega) (show 8 + (6 + 11) + 40 * (d + 4 + 1) ≤ 40 * (d + 6) by omega) (g_c0 hv.ln) (Nat.le_of_ble_eq_true rfl) dX3_readStatement_66 ?_
      intro r h35 hq _
      obtain ⟨v46, rfl, v46l, v46u, ⟨Q36, hv35, r37, r38, r39, r40⟩, f41, f42, f43, f44, f45, pt35⟩ := hq
      have pr35 : PR h → PR h35 := fun z => pt35 (pr z)
      try rw [show (v23 : Int32).toInt = (v21.toInt - 1) from e24] at f41
      try rw [show (v26 : Int32).toInt = (u34_7.toInt - 1) from e27] at f41
      try rw [show (v28 : Int32).toInt = u34_2.toInt from v28q] at f41
      try rw [show (v23 : Int32).toInt = (v21.toInt - 1) from e24] at f42
      try rw [show (v26 : Int32).toInt = (u34_7.toInt - 1) from e27] at f42
      try rw [show (v28 : Int32).toInt = u34_2.toInt from v28q] at f42
      try rw [show (v23 : Int32).toInt = (v21.toInt - 1) from e24] at f43
      try rw [show (v26 : Int32).toInt = (u34_7.toInt - 1) from e27] at f43
      try rw [show (v28 : Int32).toInt = u34_2.toInt from v28q] at f43
      try rw [show (v23 : Int32).toInt = (v21.toInt - 1) from e24] at f44
      try rw [show (v26 : Int32).toInt = (u34_7.toInt - 1) from e27] at f44
      try rw [show (v28 : Int32).toInt = u34_2.toInt from v28q] at f44
      try rw [show (v23 : Int32).toInt = (v21.toInt - 1) from e24] at f45
      try rw [show (v26 : Int32).toInt = (u34_7.toInt - 1) from e27] at f45
      try rw [show (v28 : Int32).toInt = u34_2.toInt from v28q] at f45
      have fx35 : FX KC0 h h35 := FX.tr fx f45
      have k47 := bd2_e k22 f44
      have r37 : (0 : Int) = 0 := r37
      obtain ⟨u48, u48w⟩ : ∃ v : Int32, v = h35.2.1 34 2 := ⟨_, rfl⟩
      have u48e : (h35.2.1 34 2).toInt = u48.toInt := by rw [u48w]
      have u48l : 0 ≤ u48.toInt := by rw [u48w]; exact (hv35.2.1 34 2).1
      have u48u : u48.toInt ≤ 500 := by rw [u48w]; exact (hv35.2.1 34 2).2
      have k49 := k47
      obtain ⟨u50, u50w⟩ : ∃ v : Int32, v = h35.2.1 34 7 := ⟨_, rfl⟩
      have u50e : (h35.2.1 34 7).toInt = u50.toInt := by rw [u50w]
      have u50l : 0 ≤ u50.toInt := by rw [u50w]; exact (hv35.2.1 34 7).1
      have u50u : u50.toInt ≤ 7 := by rw [u50w]; exact (hv35.2.1 34 7).2
      have k51 := k49
      refine go_istore_n (pc := 69) (Nat.le_of_ble_eq_true rfl) dX3_readStatement_69 (go_lv (lv2 := [(0, .ref 34), (1, .int a2), (2, .int v7), (3, .int v46)]) rfl ?_)
      refine go_aload_n (pc := 70) rfl dX3_readStatement_70 ?_
      refine go_iload_n (pc := 71) rfl dX3_readStatement_71 ?_
      have g52 : (0 : Int) ≤ (h35.2.1 34 2).toInt := (hv35.2.1 34 2).1
      have g53 : (h35.2.1 34 2).toInt ≤ 500 := (hv35.2.1 34 2).2
      have g54 : (0 : Int) ≤ (h35.2.1 34 7).toInt := (hv35.2.1 34 7).1
      have g55 : (h35.2.1 34 7).toInt ≤ 7 := (hv35.2.1 34 7).2
      have g56 : (h35.2.1 34 2).toInt = u48.toInt := by rw [← (show u48 = h35.2.1 34 2 from u48w)] <;> exact (ti_rfl u48)
      have g57 : (h35.2.1 34 7).toInt = u50.toInt := by rw [← (show u50 = h35.2.1 34 7 from u50w)] <;> exact (ti_rfl u50)
      refine go_invV (pc := 72) (sl := 0) (s_X3_addItem_f l (d + 3) hv35 v46 (by rw [show (v46 : Int32).toInt = v46.toInt from (ti_rfl v46)]; omega) (by rw [show (v46 : Int32).toInt = v46.toInt from (ti_rfl v46)]; omega) (by omega)) mL_X3_157 iM_X3_addItem sM_X3_addItem (hv35.sh rfl) rfl rfl rfl (Nat.le_of_ble_eq_true rfl) (show d + 3 + 2 + 1 ≤ d + 6 by omega) (show 8 + (3 + 11) + 40 * (d + 3 + 2) ≤ 40 * (d + 6) by omega) (g_c0 hv35.ln) (Nat.le_of_ble_eq_true rfl) dX3_readStatement_72 ?_
      intro r h58 hq _
      obtain ⟨v64, rfl, v64l, v64u, hv58, f59, f60, f61, f62, f63, pt58⟩ := hq
      have pr58 : PR h → PR h58 := fun z => pt58 (pr35 z)
      have fx58 : FX KC0 h h58 := FX.tr fx35 f63
      have k65 := bd2_e k51 f62
      obtain ⟨u66, u66w⟩ : ∃ v : Int32, v = h58.2.1 34 2 := ⟨_, rfl⟩
      have u66e : (h58.2.1 34 2).toInt = u66.toInt := by rw [u66w]
      have u66l : 0 ≤ u66.toInt := by rw [u66w]; exact (hv58.2.1 34 2).1
      have u66u : u66.toInt ≤ 500 := by rw [u66w]; exact (hv58.2.1 34 2).2
      have k67 := bd_e k65 (congrArg Int32.toInt u66w.symm)
      obtain ⟨u68, u68w⟩ : ∃ v : Int32, v = h58.2.1 34 7 := ⟨_, rfl⟩
      have u68e : (h58.2.1 34 7).toInt = u68.toInt := by rw [u68w]
      have u68l : 0 ≤ u68.toInt := by rw [u68w]; exact (hv58.2.1 34 7).1
      have u68u : u68.toInt ≤ 7 := by rw [u68w]; exact (hv58.2.1 34 7).2
      have k69 := k67
      refine go_istore (pc := 75) (Nat.le_of_ble_eq_true rfl) dX3_readStatement_75 (go_lv (lv2 := [(0, .ref 34), (1, .int a2), (2, .int v7), (3, .int v46), (4, .int v64)]) rfl ?_)
      refine go_aload_n (pc := 77) rfl dX3_readStatement_77 ?_
      refine go_dup (pc := 78) rfl dX3_readStatement_78 ?_
      refine gi_get (pc := 79) (lo := 0) (hi := 500) hv58 fL_X3_19 rfl (Nat.le_of_ble_eq_true rfl) rfl rfl dX3_readStatement_79 (fun v70 v70l v70u v70w => ?_)
      have v70r : u66 = h58.2.1 34 2 := u66w
      have v70q : TI v70 u66.toInt := by rw [v70w.trans v70r.symm]; exact (ti_rfl u66)
      refine go_iconst (pc := 82) (v := 1) (by decide) dX3_readStatement_82 ?_
      refine gf_iadd (pc := 83) v70q (ti_c (v := 1) (a := 1) (by decide)) (by omega) (by omega) dX3_readStatement_83 (fun v71 e72 => ?_)
      refine gi_put (pc := 84) (lo := 0) (hi := 500) hv58 e72 (fP_X3_19 _) rfl (Nat.le_of_ble_eq_true rfl) rfl rfl (by omega) (by omega) rfl rfl (by decide) (by decide) (by decide) (by decide) dX3_readStatement_84 (fun h73 hv73 hv73e => ?_)
      have pr73 : PR h → PR h73 := fun z => by rw [hv73e]; exact PR.put hv58 (pr58 z) (by omega)
      have fx73 : FX KC0 h h73 := FX.pI fx58 hv73e (by unfold KC0; omega)
      have k74 := bd_e k69 (st_I hv73e e72)
      refine go_iload_n (pc := 87) rfl dX3_readStatement_87 ?_
      refine gf_if_ne (pc := 88) (tgt := 103) (ti_rfl v7) (by decide) dX3_readStatement_88 (fun q75 => ?_) (fun q75 => ?_)
      ·
        have k76 := if_t k74 q75
        refine go_iload_n (pc := 103) rfl dX3_readStatement_103 ?_
        refine go_iconst (pc := 104) (v := 2) (by decide) dX3_readStatement_104 ?_
        refine gf_icmp_eq (pc := 105) (tgt := 113) (ti_rfl v7) (ti_c (v := 2) (a := 2) (by decide)) (by decide) dX3_readStatement_105 (fun q77 => ?_) (fun q77 => ?_)
        ·
          have k78 := if_t k76 q77
          refine go_aload_n (pc := 113) rfl dX3_readStatement_113 ?_
          refine go_iload_n (pc := 114) rfl dX3_readStatement_114 ?_
          refine go_iload (pc := 115) rfl dX3_readStatement_115 ?_
          have g79 : (0 : Int) ≤ (h73.2.1 34 2).toInt := (hv73.2.1 34 2).1
          have g80 : (h73.2.1 34 2).toInt ≤ 500 := (hv73.2.1 34 2).2
          have g81 : (0 : Int) ≤ (h73.2.1 34 7).toInt := (hv73.2.1 34 7).1
          have g82 : (h73.2.1 34 7).toInt ≤ 7 := (hv73.2.1 34 7).2
          have g83 : (h73.2.1 34 7).toInt = u68.toInt := by rw [← (show u68 = h73.2.1 34 7 from (show u68 = h73.2.1 34 7 from by rw [hv73e]; exact (g_iI rfl u68w.symm).symm))] <;> exact (ti_rfl u68)
          have g84 : (h73.2.1 34 2).toInt = (u66.toInt + 1) := by rw [← (show v71 = h73.2.1 34 2 from (show v71 = h73.2.1 34 2 from by rw [hv73e]; exact g_iS.symm))] <;> exact e72
          refine go_invV (pc := 117) (sl := 0) (s_X3_readCondition_f l (d + 1) hv73 v46 (by rw [show (v46 : Int32).toInt = v46.toInt from (ti_rfl v46)]; omega) (by rw [show (v46 : Int32).toInt = v46.toInt from (ti_rfl v46)]; omega) v64 (by rw [show (v64 : Int32).toInt = v64.toInt from (ti_rfl v64)]; omega) (by rw [show (v64 : Int32).toInt = v64.toInt from (ti_rfl v64)]; omega)) mL_X3_172 iM_X3_readCondition sM_X3_readCondition (hv73.sh rfl) rfl rfl rfl (Nat.le_of_ble_eq_true rfl) (show d + 1 + 4 + 1 ≤ d + 6 by omega) (show 8 + (3 + 11) + 40 * (d + 1 + 4) ≤ 40 * (d + 6) by omega) (g_c0 hv73.ln) (Nat.le_of_ble_eq_true rfl) dX3_readStatement_117 ?_
          intro r h85 hq _
          obtain ⟨rfl, hv85, f86, f87, pt85⟩ := hq
          have pr85 : PR h → PR h85 := fun z => pt85 (pr73 z)
          have fx85 : FX KC0 h h85 := FX.tr fx73 f87
          have k88 := bd_e k78 f86.symm
          obtain ⟨u89, u89w⟩ : ∃ v : Int32, v = h85.2.1 34 2 := ⟨_, rfl⟩
          have u89e : (h85.2.1 34 2).toInt = u89.toInt := by rw [u89w]
          have u89l : 0 ≤ u89.toInt := by rw [u89w]; exact (hv85.2.1 34 2).1
          have u89u : u89.toInt ≤ 500 := by rw [u89w]; exact (hv85.2.1 34 2).2
          have k90 := k88
          obtain ⟨u91, u91w⟩ : ∃ v : Int32, v = h85.2.1 34 7 := ⟨_, rfl⟩
          have u91e : (h85.2.1 34 7).toInt = u91.toInt := by rw [u91w]
          have u91l : 0 ≤ u91.toInt := by rw [u91w]; exact (hv85.2.1 34 7).1
          have u91u : u91.toInt ≤ 7 := by rw [u91w]; exact (hv85.2.1 34 7).2
          have k92 := k90
          refine go_goto (pc := 120) (tgt := 142) (by decide) dX3_readStatement_120 ?_
          exact gi_vret (pc := 142) ⟨rfl, ⟨Q36, hv85, (by show (0 : Int) = 0; omega), (by first | rfl | (simp only [r40, r39, r38])), (by first | rfl | (simp only [r40, r39, r38])), (by first | rfl | (simp only [r40, r39, r38]))⟩, (k92.symm.trans kf), fx85, pr85⟩ hv85 dX3_readStatement_142
        ·
          have k93 := if_f k76 q77
          refine go_iload_n (pc := 108) rfl dX3_readStatement_108 ?_
          refine go_iconst (pc := 109) (v := 3) (by decide) dX3_readStatement_109 ?_
          refine gf_icmp_ne (pc := 110) (tgt := 123) (ti_rfl v7) (ti_c (v := 3) (a := 3) (by decide)) (by decide) dX3_readStatement_110 (fun q94 => ?_) (fun q94 => ?_)
          ·
            have k95 := if_t k93 q94
            refine go_aload_n (pc := 123) rfl dX3_readStatement_123 ?_
            refine gi_getC (pc := 124) hv73 fL_X3_46 rfl (Nat.le_of_ble_eq_true rfl) rfl (by decide) dX3_readStatement_124 (fun c96 hc96 fc96 => ?_)
            have k97 := bd_e k95 (st_c fc96)
            refine gi_getF (pc := 127) (q := c96 + 9) hv73 fL_X3_175 (by rcases hc96 with rfl | rfl <;> rfl) (Nat.le_of_ble_eq_true rfl) rfl (by rcases hc96 with rfl | rfl <;> exact hv73.rf (by decide)) dX3_readStatement_127 ?_
            refine go_iload_n (pc := 130) rfl dX3_readStatement_130 ?_
            refine go_aload_n (pc := 131) rfl dX3_readStatement_131 ?_
            have g98 : (0 : Int) ≤ (h73.2.1 34 2).toInt := (hv73.2.1 34 2).1
            have g99 : (h73.2.1 34 2).toInt ≤ 500 := (hv73.2.1 34 2).2
            have g100 : (0 : Int) ≤ (h73.2.1 34 7).toInt := (hv73.2.1 34 7).1
            have g101 : (h73.2.1 34 7).toInt ≤ 7 := (hv73.2.1 34 7).2
            have g102 : (h73.2.1 34 7).toInt = u68.toInt := by rw [← (show u68 = h73.2.1 34 7 from (show u68 = h73.2.1 34 7 from by rw [hv73e]; exact (g_iI rfl u68w.symm).symm))] <;> exact (ti_rfl u68)
            have g103 : (h73.2.1 34 2).toInt = (u66.toInt + 1) := by rw [← (show v71 = h73.2.1 34 2 from (show v71 = h73.2.1 34 2 from by rw [hv73e]; exact g_iS.symm))] <;> exact e72
            refine go_invV (pc := 132) (sl := 0) (s_X3_readOperand_f l (d + 2) hv73 ) mL_X3_178 iM_X3_readOperand sM_X3_readOperand (hv73.sh rfl) rfl rfl rfl (Nat.le_of_ble_eq_true rfl) (show d + 2 + 3 + 1 ≤ d + 6 by omega) (show 8 + (3 + 11) + 40 * (d + 2 + 3) ≤ 40 * (d + 6) by omega) (g_c0 hv73.ln) (Nat.le_of_ble_eq_true rfl) dX3_readStatement_132 ?_
            intro r h104 hq _
            obtain ⟨v109, rfl, v109l, v109u, hv104, f105, f106, f107, f108, pt104⟩ := hq
            have pr104 : PR h → PR h104 := fun z => pt104 (pr73 z)
            have fx104 : FX KC0 h h104 := FX.tr fx73 f108
            have k110 := bd2_e k97 f107
            obtain ⟨u111, u111w⟩ : ∃ v : Int32, v = h104.2.1 34 2 := ⟨_, rfl⟩
            have u111e : (h104.2.1 34 2).toInt = u111.toInt := by rw [u111w]
            have u111l : 0 ≤ u111.toInt := by rw [u111w]; exact (hv104.2.1 34 2).1
            have u111u : u111.toInt ≤ 500 := by rw [u111w]; exact (hv104.2.1 34 2).2
            have k112 := k110
            obtain ⟨u113, u113w⟩ : ∃ v : Int32, v = h104.2.1 34 7 := ⟨_, rfl⟩
            have u113e : (h104.2.1 34 7).toInt = u113.toInt := by rw [u113w]
            have u113l : 0 ≤ u113.toInt := by rw [u113w]; exact (hv104.2.1 34 7).1
            have u113u : u113.toInt ≤ 7 := by rw [u113w]; exact (hv104.2.1 34 7).2
            have k114 := k112
            refine gi_iast (pc := 135) (lo := -2147483648) (hi := 2147483647) (len := 40) hv104 (ti_rfl v46) (ti_rfl v109) (by rcases hc96 with rfl | rfl <;> rfl) (by omega) (by omega) (fun _ => by rcases hc96 with rfl | rfl <;> rfl) (ti_ge (ti_rfl v109)) (ti_le2 (ti_rfl v109)) (by rcases hc96 with rfl | rfl <;> decide) dX3_readStatement_135 (fun h115 hv115 hv115e => ?_)
            have pr115 : PR h → PR h115 := fun z => by rw [hv115e]; exact PR.put hv104 (pr104 z) (by omega)
            have fx115 : FX KC0 h h115 := FX.pI fx104 hv115e (by unfold KC0; omega)
            have k116 := bd_e k114 (st_I hv115e (ti_rfl v109))
            refine go_aload_n (pc := 136) rfl dX3_readStatement_136 ?_
            refine go_bipush (pc := 137) (v := 59) (by decide) dX3_readStatement_137 ?_
            have g117 : (0 : Int) ≤ (h115.2.1 34 2).toInt := (hv115.2.1 34 2).1
            have g118 : (h115.2.1 34 2).toInt ≤ 500 := (hv115.2.1 34 2).2
            have g119 : (0 : Int) ≤ (h115.2.1 34 7).toInt := (hv115.2.1 34 7).1
            have g120 : (h115.2.1 34 7).toInt ≤ 7 := (hv115.2.1 34 7).2
            have g121 : (h115.2.1 34 2).toInt = u111.toInt := by rw [← (show u111 = h115.2.1 34 2 from (show u111 = h115.2.1 34 2 from by rw [hv115e]; exact (g_iIc (by omega) (by decide) u111w.symm).symm))] <;> exact (ti_rfl u111)
            have g122 : (h115.2.1 34 7).toInt = u113.toInt := by rw [← (show u113 = h115.2.1 34 7 from (show u113 = h115.2.1 34 7 from by rw [hv115e]; exact (g_iIc (by omega) (by decide) u113w.symm).symm))] <;> exact (ti_rfl u113)
            refine go_invV (pc := 139) (sl := 0) (s_X3_take_f l (d + 3) hv115 59 (by rw [show (59 : Int32).toInt = 59 from (ti_c (v := 59) (a := 59) (by decide))]; omega) (by rw [show (59 : Int32).toInt = 59 from (ti_c (v := 59) (a := 59) (by decide))]; omega)) mL_X3_181 iM_X3_take sM_X3_take (hv115.sh rfl) rfl rfl rfl (Nat.le_of_ble_eq_true rfl) (show d + 3 + 2 + 1 ≤ d + 6 by omega) (show 8 + (2 + 11) + 40 * (d + 3 + 2) ≤ 40 * (d + 6) by omega) (g_c0 hv115.ln) (Nat.le_of_ble_eq_true rfl) dX3_readStatement_139 ?_
            intro r h123 hq _
            obtain ⟨rfl, hv123, f124, f125, f126, f127, pt123⟩ := hq
            have pr123 : PR h → PR h123 := fun z => pt123 (pr115 z)
            try rw [show (59 : Int32).toInt = 59 from (ti_c (v := 59) (a := 59) (by decide))] at f124
            try rw [show (59 : Int32).toInt = 59 from (ti_c (v := 59) (a := 59) (by decide))] at f125
            try rw [show (59 : Int32).toInt = 59 from (ti_c (v := 59) (a := 59) (by decide))] at f126
            try rw [show (59 : Int32).toInt = 59 from (ti_c (v := 59) (a := 59) (by decide))] at f127
            have fx123 : FX KC0 h h123 := FX.tr fx115 f127
            have k128 := bd_e k116 f126.symm
            obtain ⟨u129, u129w⟩ : ∃ v : Int32, v = h123.2.1 34 2 := ⟨_, rfl⟩
            have u129e : (h123.2.1 34 2).toInt = u129.toInt := by rw [u129w]
            have u129l : 0 ≤ u129.toInt := by rw [u129w]; exact (hv123.2.1 34 2).1
            have u129u : u129.toInt ≤ 500 := by rw [u129w]; exact (hv123.2.1 34 2).2
            have k130 := k128
            obtain ⟨u131, u131w⟩ : ∃ v : Int32, v = h123.2.1 34 7 := ⟨_, rfl⟩
            have u131e : (h123.2.1 34 7).toInt = u131.toInt := by rw [u131w]
            have u131l : 0 ≤ u131.toInt := by rw [u131w]; exact (hv123.2.1 34 7).1
            have u131u : u131.toInt ≤ 7 := by rw [u131w]; exact (hv123.2.1 34 7).2
            have k132 := k130
            exact gi_vret (pc := 142) ⟨rfl, ⟨Q36, hv123, (by show (0 : Int) = 0; omega), (by first | rfl | (simp only [r40, r39, r38])), (by first | rfl | (simp only [r40, r39, r38])), (by first | rfl | (simp only [r40, r39, r38]))⟩, (k132.symm.trans kf), fx123, pr123⟩ hv123 dX3_readStatement_142
          ·
            have k133 := if_f k93 (fun z => z q94)
            refine go_aload_n (pc := 113) rfl dX3_readStatement_113 ?_
            refine go_iload_n (pc := 114) rfl dX3_readStatement_114 ?_
            refine go_iload (pc := 115) rfl dX3_readStatement_115 ?_
            have g134 : (0 : Int) ≤ (h73.2.1 34 2).toInt := (hv73.2.1 34 2).1
            have g135 : (h73.2.1 34 2).toInt ≤ 500 := (hv73.2.1 34 2).2
            have g136 : (0 : Int) ≤ (h73.2.1 34 7).toInt := (hv73.2.1 34 7).1
            have g137 : (h73.2.1 34 7).toInt ≤ 7 := (hv73.2.1 34 7).2
            have g138 : (h73.2.1 34 7).toInt = u68.toInt := by rw [← (show u68 = h73.2.1 34 7 from (show u68 = h73.2.1 34 7 from by rw [hv73e]; exact (g_iI rfl u68w.symm).symm))] <;> exact (ti_rfl u68)
            have g139 : (h73.2.1 34 2).toInt = (u66.toInt + 1) := by rw [← (show v71 = h73.2.1 34 2 from (show v71 = h73.2.1 34 2 from by rw [hv73e]; exact g_iS.symm))] <;> exact e72
            refine go_invV (pc := 117) (sl := 0) (s_X3_readCondition_f l (d + 1) hv73 v46 (by rw [show (v46 : Int32).toInt = v46.toInt from (ti_rfl v46)]; omega) (by rw [show (v46 : Int32).toInt = v46.toInt from (ti_rfl v46)]; omega) v64 (by rw [show (v64 : Int32).toInt = v64.toInt from (ti_rfl v64)]; omega) (by rw [show (v64 : Int32).toInt = v64.toInt from (ti_rfl v64)]; omega)) mL_X3_172 iM_X3_readCondition sM_X3_readCondition (hv73.sh rfl) rfl rfl rfl (Nat.le_of_ble_eq_true rfl) (show d + 1 + 4 + 1 ≤ d + 6 by omega) (show 8 + (3 + 11) + 40 * (d + 1 + 4) ≤ 40 * (d + 6) by omega) (g_c0 hv73.ln) (Nat.le_of_ble_eq_true rfl) dX3_readStatement_117 ?_
            intro r h140 hq _
            obtain ⟨rfl, hv140, f141, f142, pt140⟩ := hq
            have pr140 : PR h → PR h140 := fun z => pt140 (pr73 z)
            have fx140 : FX KC0 h h140 := FX.tr fx73 f142
            have k143 := bd_e k133 f141.symm
            obtain ⟨u144, u144w⟩ : ∃ v : Int32, v = h140.2.1 34 2 := ⟨_, rfl⟩
            have u144e : (h140.2.1 34 2).toInt = u144.toInt := by rw [u144w]
            have u144l : 0 ≤ u144.toInt := by rw [u144w]; exact (hv140.2.1 34 2).1
            have u144u : u144.toInt ≤ 500 := by rw [u144w]; exact (hv140.2.1 34 2).2
            have k145 := k143
            obtain ⟨u146, u146w⟩ : ∃ v : Int32, v = h140.2.1 34 7 := ⟨_, rfl⟩
            have u146e : (h140.2.1 34 7).toInt = u146.toInt := by rw [u146w]
            have u146l : 0 ≤ u146.toInt := by rw [u146w]; exact (hv140.2.1 34 7).1
            have u146u : u146.toInt ≤ 7 := by rw [u146w]; exact (hv140.2.1 34 7).2
            have k147 := k145
            refine go_goto (pc := 120) (tgt := 142) (by decide) dX3_readStatement_120 ?_
            exact gi_vret (pc := 142) ⟨rfl, ⟨Q36, hv140, (by show (0 : Int) = 0; omega), (by first | rfl | (simp only [r40, r39, r38])), (by first | rfl | (simp only [r40, r39, r38])), (by first | rfl | (simp only [r40, r39, r38]))⟩, (k147.symm.trans kf), fx140, pr140⟩ hv140 dX3_readStatement_142
      ·
        have k148 := if_f k74 (fun z => z q75)
        refine go_aload_n (pc := 91) rfl dX3_readStatement_91 ?_
        refine go_iload_n (pc := 92) rfl dX3_readStatement_92 ?_
        refine go_iload_n (pc := 93) rfl dX3_readStatement_93 ?_
        refine go_invS (pc := 94) (sl := 0) (s_X3_nameOf_f l (d + 4) hv73 a2) mL_X3_137 iM_X3_nameOf rfl rfl (Nat.le_of_ble_eq_true rfl) (show d + 4 + 1 + 1 ≤ d + 6 by omega) (show 8 + (1 + 11) + 40 * (d + 4 + 1) ≤ 40 * (d + 6) by omega) (g_c0 hv73.ln) (Nat.le_of_ble_eq_true rfl) dX3_readStatement_94 ?_
        intro r h149 hq _
        obtain ⟨v152, rfl, v152l, v152u, rfl, f150, f151⟩ := hq
        replace f151 : PE _ _ := f151
        have k153 := bd_e k148 f151.symm
        have g154 : (0 : Int) ≤ (h73.2.1 34 2).toInt := (hv73.2.1 34 2).1
        have g155 : (h73.2.1 34 2).toInt ≤ 500 := (hv73.2.1 34 2).2
        have g156 : (0 : Int) ≤ (h73.2.1 34 7).toInt := (hv73.2.1 34 7).1
        have g157 : (h73.2.1 34 7).toInt ≤ 7 := (hv73.2.1 34 7).2
        have g158 : (h73.2.1 34 7).toInt = u68.toInt := by rw [← (show u68 = h73.2.1 34 7 from (show u68 = h73.2.1 34 7 from by rw [hv73e]; exact (g_iI rfl u68w.symm).symm))] <;> exact (ti_rfl u68)
        have g159 : (h73.2.1 34 2).toInt = (u66.toInt + 1) := by rw [← (show v71 = h73.2.1 34 2 from (show v71 = h73.2.1 34 2 from by rw [hv73e]; exact g_iS.symm))] <;> exact e72
        refine go_invV (pc := 97) (sl := 0) (s_X3_readAssignment_f l (d + 0) hv73 v46 (by rw [show (v46 : Int32).toInt = v46.toInt from (ti_rfl v46)]; omega) (by rw [show (v46 : Int32).toInt = v46.toInt from (ti_rfl v46)]; omega) v152 (by rw [show (v152 : Int32).toInt = v152.toInt from (ti_rfl v152)]; omega) (by rw [show (v152 : Int32).toInt = v152.toInt from (ti_rfl v152)]; omega)) mL_X3_169 iM_X3_readAssignment sM_X3_readAssignment (hv73.sh rfl) rfl rfl rfl (Nat.le_of_ble_eq_true rfl) (show d + 0 + 5 + 1 ≤ d + 6 by omega) (show 8 + (4 + 11) + 40 * (d + 0 + 5) ≤ 40 * (d + 6) by omega) (g_c0 hv73.ln) (Nat.le_of_ble_eq_true rfl) dX3_readStatement_97 ?_
        intro r h160 hq _
        obtain ⟨rfl, ⟨Q161, hv160, r162, r163, r164, r165⟩, f166, f167, f168, f169, pt160⟩ := hq
        have pr160 : PR h → PR h160 := fun z => pt160 (pr73 z)
        have fx160 : FX KC0 h h160 := FX.tr fx73 f169
        have k170 := bd_e k153 f168.symm
        have r162 : (0 : Int) = 0 := r162
        obtain ⟨u171, u171w⟩ : ∃ v : Int32, v = h160.2.1 34 2 := ⟨_, rfl⟩
        have u171e : (h160.2.1 34 2).toInt = u171.toInt := by rw [u171w]
        have u171l : 0 ≤ u171.toInt := by rw [u171w]; exact (hv160.2.1 34 2).1
        have u171u : u171.toInt ≤ 500 := by rw [u171w]; exact (hv160.2.1 34 2).2
        have k172 := k170
        obtain ⟨u173, u173w⟩ : ∃ v : Int32, v = h160.2.1 34 7 := ⟨_, rfl⟩
        have u173e : (h160.2.1 34 7).toInt = u173.toInt := by rw [u173w]
        have u173l : 0 ≤ u173.toInt := by rw [u173w]; exact (hv160.2.1 34 7).1
        have u173u : u173.toInt ≤ 7 := by rw [u173w]; exact (hv160.2.1 34 7).2
        have k174 := k172
        refine go_goto (pc := 100) (tgt := 142) (by decide) dX3_readStatement_100 ?_
        exact gi_vret (pc := 142) ⟨rfl, ⟨Q161, hv160, (by show (0 : Int) = 0; omega), (by first | rfl | (simp only [r165, r164, r163, r40, r39, r38])), (by first | rfl | (simp only [r165, r164, r163, r40, r39, r38])), (by first | rfl | (simp only [r165, r164, r163, r40, r39, r38]))⟩, (k174.symm.trans kf), fx160, pr160⟩ hv160 dX3_readStatement_142
    ·
      have k175 := if_f k14 (Int.not_lt.mpr q15)
      refine go_aload_n (pc := 32) rfl dX3_readStatement_32 ?_
      refine go_iconst (pc := 33) (v := 4) (by decide) dX3_readStatement_33 ?_
      refine go_aload_n (pc := 34) rfl dX3_readStatement_34 ?_
      refine gi_get (pc := 35) (lo := 0) (hi := 500) hv fL_X3_19 rfl (Nat.le_of_ble_eq_true rfl) rfl rfl dX3_readStatement_35 (fun v176 v176l v176u v176w => ?_)
      have v176r : u34_2 = h.2.1 34 2 := u34_2w
      have v176q : TI v176 u34_2.toInt := by rw [v176w.trans v176r.symm]; exact (ti_rfl u34_2)
      have g177 : (0 : Int) ≤ (h.2.1 34 2).toInt := (hv.2.1 34 2).1
      have g178 : (h.2.1 34 2).toInt ≤ 500 := (hv.2.1 34 2).2
      have g179 : (0 : Int) ≤ (h.2.1 34 7).toInt := (hv.2.1 34 7).1
      have g180 : (h.2.1 34 7).toInt ≤ 7 := (hv.2.1 34 7).2
      have g181 : (h.2.1 34 2).toInt = u34_2.toInt := by rw [← (show u34_2 = h.2.1 34 2 from u34_2w)] <;> exact (ti_rfl u34_2)
      have g182 : (h.2.1 34 7).toInt = u34_7.toInt := by rw [← (show u34_7 = h.2.1 34 7 from u34_7w)] <;> exact (ti_rfl u34_7)
      refine go_invV (pc := 38) (sl := 0) (s_X3_blame_f l (d + 4) hv 4 (by rw [show (4 : Int32).toInt = 4 from (ti_c (v := 4) (a := 4) (by decide))]; omega) (by rw [show (4 : Int32).toInt = 4 from (ti_c (v := 4) (a := 4) (by decide))]; omega) v176 (by rw [show (v176 : Int32).toInt = u34_2.toInt from v176q]; omega) (by rw [show (v176 : Int32).toInt = u34_2.toInt from v176q]; omega)) mL_X3_101 iM_X3_blame sM_X3_blame (hv.sh rfl) rfl rfl rfl (Nat.le_of_ble_eq_true rfl) (show d + 4 + 1 + 1 ≤ d + 6 by omega) (show 8 + (3 + 11) + 40 * (d + 4 + 1) ≤ 40 * (d + 6) by omega) (g_c0 hv.ln) (Nat.le_of_ble_eq_true rfl) dX3_readStatement_38 ?_
      intro r h183 hq _
      obtain ⟨rfl, hv183, f184, f185, f186, f187, f188, f189, pt183⟩ := hq
      have pr183 : PR h → PR h183 := fun z => pt183 (pr z)
      try rw [show (4 : Int32).toInt = 4 from (ti_c (v := 4) (a := 4) (by decide))] at f184
      try rw [show (v176 : Int32).toInt = u34_2.toInt from v176q] at f184
      try rw [show (4 : Int32).toInt = 4 from (ti_c (v := 4) (a := 4) (by decide))] at f185
      try rw [show (v176 : Int32).toInt = u34_2.toInt from v176q] at f185
      try rw [show (4 : Int32).toInt = 4 from (ti_c (v := 4) (a := 4) (by decide))] at f186
      try rw [show (v176 : Int32).toInt = u34_2.toInt from v176q] at f186
      try rw [show (4 : Int32).toInt = 4 from (ti_c (v := 4) (a := 4) (by decide))] at f187
      try rw [show (v176 : Int32).toInt = u34_2.toInt from v176q] at f187
      try rw [show (4 : Int32).toInt = 4 from (ti_c (v := 4) (a := 4) (by decide))] at f188
      try rw [show (v176 : Int32).toInt = u34_2.toInt from v176q] at f188
      try rw [show (4 : Int32).toInt = 4 from (ti_c (v := 4) (a := 4) (by decide))] at f189
      try rw [show (v176 : Int32).toInt = u34_2.toInt from v176q] at f189
      have fx183 : FX KC0 h h183 := FX.tr fx f189
      have k190 := bd_e k175 f188.symm
      obtain ⟨u191, u191w⟩ : ∃ v : Int32, v = h183.2.1 34 2 := ⟨_, rfl⟩
      have u191e : (h183.2.1 34 2).toInt = u191.toInt := by rw [u191w]
      have u191l : 0 ≤ u191.toInt := by rw [u191w]; exact (hv183.2.1 34 2).1
      have u191u : u191.toInt ≤ 500 := by rw [u191w]; exact (hv183.2.1 34 2).2
      have k192 := k190
      obtain ⟨u193, u193w⟩ : ∃ v : Int32, v = h183.2.1 34 7 := ⟨_, rfl⟩
      have u193e : (h183.2.1 34 7).toInt = u193.toInt := by rw [u193w]
      have u193l : 0 ≤ u193.toInt := by rw [u193w]; exact (hv183.2.1 34 7).1
      have u193u : u193.toInt ≤ 7 := by rw [u193w]; exact (hv183.2.1 34 7).2
      have k194 := k192
      exact gi_vret (pc := 41) ⟨rfl, ⟨P, hv183, (by show (0 : Int) = 0; omega), (by first | rfl | (simp only [r165, r164, r163, r40, r39, r38])), (by first | rfl | (simp only [r165, r164, r163, r40, r39, r38])), (by first | rfl | (simp only [r165, r164, r163, r40, r39, r38]))⟩, (k194.symm.trans kf), fx183, pr183⟩ hv183 dX3_readStatement_41
  ·
    have k195 := if_f k8 (fun z => z q9)
    refine go_aload_n (pc := 10) rfl dX3_readStatement_10 ?_
    refine go_iconst (pc := 11) (v := 1) (by decide) dX3_readStatement_11 ?_
    refine go_aload_n (pc := 12) rfl dX3_readStatement_12 ?_
    refine gi_get (pc := 13) (lo := 0) (hi := 500) hv fL_X3_19 rfl (Nat.le_of_ble_eq_true rfl) rfl rfl dX3_readStatement_13 (fun v196 v196l v196u v196w => ?_)
    have v196r : u34_2 = h.2.1 34 2 := u34_2w
    have v196q : TI v196 u34_2.toInt := by rw [v196w.trans v196r.symm]; exact (ti_rfl u34_2)
    have g197 : (0 : Int) ≤ (h.2.1 34 2).toInt := (hv.2.1 34 2).1
    have g198 : (h.2.1 34 2).toInt ≤ 500 := (hv.2.1 34 2).2
    have g199 : (0 : Int) ≤ (h.2.1 34 7).toInt := (hv.2.1 34 7).1
    have g200 : (h.2.1 34 7).toInt ≤ 7 := (hv.2.1 34 7).2
    have g201 : (h.2.1 34 2).toInt = u34_2.toInt := by rw [← (show u34_2 = h.2.1 34 2 from u34_2w)] <;> exact (ti_rfl u34_2)
    have g202 : (h.2.1 34 7).toInt = u34_7.toInt := by rw [← (show u34_7 = h.2.1 34 7 from u34_7w)] <;> exact (ti_rfl u34_7)
    refine go_invV (pc := 16) (sl := 0) (s_X3_blame_f l (d + 4) hv 1 (by rw [show (1 : Int32).toInt = 1 from (ti_c (v := 1) (a := 1) (by decide))]; omega) (by rw [show (1 : Int32).toInt = 1 from (ti_c (v := 1) (a := 1) (by decide))]; omega) v196 (by rw [show (v196 : Int32).toInt = u34_2.toInt from v196q]; omega) (by rw [show (v196 : Int32).toInt = u34_2.toInt from v196q]; omega)) mL_X3_101 iM_X3_blame sM_X3_blame (hv.sh rfl) rfl rfl rfl (Nat.le_of_ble_eq_true rfl) (show d + 4 + 1 + 1 ≤ d + 6 by omega) (show 8 + (3 + 11) + 40 * (d + 4 + 1) ≤ 40 * (d + 6) by omega) (g_c0 hv.ln) (Nat.le_of_ble_eq_true rfl) dX3_readStatement_16 ?_
    intro r h203 hq _
    obtain ⟨rfl, hv203, f204, f205, f206, f207, f208, f209, pt203⟩ := hq
    have pr203 : PR h → PR h203 := fun z => pt203 (pr z)
    try rw [show (1 : Int32).toInt = 1 from (ti_c (v := 1) (a := 1) (by decide))] at f204
    try rw [show (v196 : Int32).toInt = u34_2.toInt from v196q] at f204
    try rw [show (1 : Int32).toInt = 1 from (ti_c (v := 1) (a := 1) (by decide))] at f205
    try rw [show (v196 : Int32).toInt = u34_2.toInt from v196q] at f205
    try rw [show (1 : Int32).toInt = 1 from (ti_c (v := 1) (a := 1) (by decide))] at f206
    try rw [show (v196 : Int32).toInt = u34_2.toInt from v196q] at f206
    try rw [show (1 : Int32).toInt = 1 from (ti_c (v := 1) (a := 1) (by decide))] at f207
    try rw [show (v196 : Int32).toInt = u34_2.toInt from v196q] at f207
    try rw [show (1 : Int32).toInt = 1 from (ti_c (v := 1) (a := 1) (by decide))] at f208
    try rw [show (v196 : Int32).toInt = u34_2.toInt from v196q] at f208
    try rw [show (1 : Int32).toInt = 1 from (ti_c (v := 1) (a := 1) (by decide))] at f209
    try rw [show (v196 : Int32).toInt = u34_2.toInt from v196q] at f209
    have fx203 : FX KC0 h h203 := FX.tr fx f209
    have k210 := bd_e k195 f208.symm
    obtain ⟨u211, u211w⟩ : ∃ v : Int32, v = h203.2.1 34 2 := ⟨_, rfl⟩
    have u211e : (h203.2.1 34 2).toInt = u211.toInt := by rw [u211w]
    have u211l : 0 ≤ u211.toInt := by rw [u211w]; exact (hv203.2.1 34 2).1
    have u211u : u211.toInt ≤ 500 := by rw [u211w]; exact (hv203.2.1 34 2).2
    have k212 := k210
    obtain ⟨u213, u213w⟩ : ∃ v : Int32, v = h203.2.1 34 7 := ⟨_, rfl⟩
    have u213e : (h203.2.1 34 7).toInt = u213.toInt := by rw [u213w]
    have u213l : 0 ≤ u213.toInt := by rw [u213w]; exact (hv203.2.1 34 7).1
    have u213u : u213.toInt ≤ 7 := by rw [u213w]; exact (hv203.2.1 34 7).2
    have k214 := k212
    exact gi_vret (pc := 19) ⟨rfl, ⟨P, hv203, (by show (0 : Int) = 0; omega), (by first | rfl | (simp only [r165, r164, r163, r40, r39, r38])), (by first | rfl | (simp only [r165, r164, r163, r40, r39, r38])), (by first | rfl | (simp only [r165, r164, r163, r40, r39, r38]))⟩, (k214.symm.trans kf), fx203, pr203⟩ hv203 dX3_readStatement_19
def f_X3_closeBlock (s : ST) : ST :=
  bd (s.1 34 2) fun v1 => bd (sI s 34 2 ((v1 + 1))) fun s6 => bd (s6.1 34 7) fun v8 => bd (sI s6 34 7 ((v8 - 1))) fun s13 => bd (s13.1 45 ((v8 - 1)).toNat) fun v16 => if 0 ≤ v16 then (bd (s13.1 47 ((v8 - 1)).toNat) fun v21 => if v21 = 0 then (bd (s13.1 46 ((v8 - 1)).toNat) fun v26 => bd (sI s13 39 (v16).toNat v26) fun s28 => bd (f_X3_readSecond s28 v16) fun s36 => s36) else (bd (s13.1 46 ((v8 - 1)).toNat) fun v46 => bd (sI s13 40 (v16).toNat v46) fun s48 => s48)) else (bd (s13.2.2 34 4) fun c51 => bd (s13.1 c51 1) fun v53 => bd (s13.1 46 ((v8 - 1)).toNat) fun v58 => bd (sI s13 44 ((v53 - 1)).toNat v58) fun s60 => s60)
set_option maxHeartbeats 4000000 in
set_option maxRecDepth 100000 in
theorem s_X3_closeBlock_f (l : Launch) (d : Nat) {P : PP} {h : HP} (hv : Iv P h) (hp : 1 ≤ (h.2.1 34 7).toInt) (hp2 : (h.2.1 34 2).toInt ≤ 499) (hpr : PR h) : Mt l yX3_closeBlock cX3_closeBlock 2 none (d + 4) [.ref 34] h 0 0 (fun r h' => r = none ∧ Iv P h' ∧ (st h' = f_X3_closeBlock (st h)) ∧ (FX KC0 h h') ∧ (PR h → PR h')) := by
  refine Mt_iv hv (by decide) (Nat.le_of_ble_eq_true rfl) ?_
  show Go l RX3 cX3_closeBlock 2 (g_rm (d + 4) 0 0) "closeBlock" none 117 0 0 (fun _ _ => True) (fun r h' => r = none ∧ Iv P h' ∧ (st h' = f_X3_closeBlock (st h)) ∧ (FX KC0 h h') ∧ (PR h → PR h')) 0 0 [(0, .ref 34)] [] h
  have pr : PR h → PR h := id
  have fx : FX KC0 h h := FX.rfl
  obtain ⟨fin, kf⟩ : ∃ z, z = f_X3_closeBlock (st h) := ⟨_, _root_.rfl⟩
  have k0 := kf
  unfold f_X3_closeBlock at k0
  refine go_aload_n (pc := 0) rfl dX3_closeBlock_0 ?_
  refine go_dup (pc := 1) rfl dX3_closeBlock_1 ?_
  refine gi_get (pc := 2) (lo := 0) (hi := 500) hv fL_X3_19 rfl (Nat.le_of_ble_eq_true rfl) rfl rfl dX3_closeBlock_2 (fun v1 v1l v1u v1w => ?_)
  have k2 := bd_e k0 (congrArg Int32.toInt v1w.symm)
  have g3 : (h.2.1 34 2).toInt = v1.toInt := by rw [v1w]
  have kp : v1.toInt ≤ 499 := by rw [v1w]; exact hp2
  refine go_iconst (pc := 5) (v := 1) (by decide) dX3_closeBlock_5 ?_
  refine gf_iadd (pc := 6) (ti_rfl v1) (ti_c (v := 1) (a := 1) (by decide)) (by omega) (by omega) dX3_closeBlock_6 (fun v4 e5 => ?_)
  refine gi_put (pc := 7) (lo := 0) (hi := 500) hv e5 (fP_X3_19 _) rfl (Nat.le_of_ble_eq_true rfl) rfl rfl (by omega) (by omega) rfl rfl (by decide) (by decide) (by decide) (by decide) dX3_closeBlock_7 (fun h6 hv6 hv6e => ?_)
  have pr6 : PR h → PR h6 := fun z => by rw [hv6e]; exact PR.put hv (pr z) (by omega)
  have fx6 : FX KC0 h h6 := FX.pI fx hv6e (by unfold KC0; omega)
  have k7 := bd_e k2 (st_I hv6e e5)
  refine go_aload_n (pc := 10) rfl dX3_closeBlock_10 ?_
  refine go_dup (pc := 11) rfl dX3_closeBlock_11 ?_
  refine gi_get (pc := 12) (lo := 0) (hi := 7) hv6 fL_X3_32 rfl (Nat.le_of_ble_eq_true rfl) rfl rfl dX3_closeBlock_12 (fun v8 v8l v8u v8w => ?_)
  have k9 := bd_e k7 (congrArg Int32.toInt v8w.symm)
  have g10 : (h6.2.1 34 7).toInt = v8.toInt := by rw [v8w]
  have ko : 1 ≤ v8.toInt := by rw [v8w, hv6e]; exact hp
  refine go_iconst (pc := 15) (v := 1) (by decide) dX3_closeBlock_15 ?_
  refine gf_isub (pc := 16) (ti_rfl v8) (ti_c (v := 1) (a := 1) (by decide)) (by omega) (by omega) dX3_closeBlock_16 (fun v11 e12 => ?_)
  refine gi_put (pc := 17) (lo := 0) (hi := 7) hv6 e12 (fP_X3_32 _) rfl (Nat.le_of_ble_eq_true rfl) rfl rfl (by omega) (by omega) rfl rfl (by decide) (by decide) (by decide) (by decide) dX3_closeBlock_17 (fun h13 hv13 hv13e => ?_)
  have pr13 : PR h → PR h13 := fun z => by rw [hv13e]; exact PR.put hv6 (pr6 z) (by omega)
  have fx13 : FX KC0 h h13 := FX.pI fx6 hv13e (by unfold KC0; omega)
  have k14 := bd_e k9 (st_I hv13e e12)
  refine go_aload_n (pc := 20) rfl dX3_closeBlock_20 ?_
  refine gi_getF (pc := 21) (q := 45) hv13 fL_X3_35 rfl (Nat.le_of_ble_eq_true rfl) rfl (hv13.rf (by decide)) dX3_closeBlock_21 ?_
  refine go_aload_n (pc := 24) rfl dX3_closeBlock_24 ?_
  refine gi_get (pc := 25) (lo := 0) (hi := 7) hv13 fL_X3_32 rfl (Nat.le_of_ble_eq_true rfl) rfl rfl dX3_closeBlock_25 (fun v15 v15l v15u v15w => ?_)
  have v15r : v11 = h13.2.1 34 7 := (show v11 = h13.2.1 34 7 from by rw [hv13e]; exact g_iS.symm)
  have v15q : TI v15 ((v8.toInt - 1)) := by rw [v15w.trans v15r.symm]; exact e12
  refine gi_iald (pc := 28) (lo := -1) (hi := 127) (len := 7) hv13 v15q rfl (by omega) (by omega) (fun _ => rfl) dX3_closeBlock_28 (fun v16 v16l v16u v16w => ?_)
  have k17 := bd_e k14 (congrArg Int32.toInt v16w.symm)
  refine go_istore_n (pc := 29) (Nat.le_of_ble_eq_true rfl) dX3_closeBlock_29 (go_lv (lv2 := [(0, .ref 34), (1, .int v16)]) rfl ?_)
  refine go_iload_n (pc := 30) rfl dX3_closeBlock_30 ?_
  refine gf_if_ge (pc := 31) (tgt := 63) (ti_rfl v16) (by decide) dX3_closeBlock_31 (fun q18 => ?_) (fun q18 => ?_)
  ·
    have k19 := if_t k17 q18
    refine go_aload_n (pc := 63) rfl dX3_closeBlock_63 ?_
    refine gi_getF (pc := 64) (q := 47) hv13 fL_X3_42 rfl (Nat.le_of_ble_eq_true rfl) rfl (hv13.rf (by decide)) dX3_closeBlock_64 ?_
    refine go_aload_n (pc := 67) rfl dX3_closeBlock_67 ?_
    refine gi_get (pc := 68) (lo := 0) (hi := 7) hv13 fL_X3_32 rfl (Nat.le_of_ble_eq_true rfl) rfl rfl dX3_closeBlock_68 (fun v20 v20l v20u v20w => ?_)
    have v20r : v11 = h13.2.1 34 7 := (show v11 = h13.2.1 34 7 from by rw [hv13e]; exact g_iS.symm)
    have v20q : TI v20 ((v8.toInt - 1)) := by rw [v20w.trans v20r.symm]; exact e12
    refine gi_zald (pc := 71) (lo := 0) (hi := 1) (len := 7) hv13 v20q rfl (by omega) (by omega) (fun _ => rfl) dX3_closeBlock_71 (fun v21 v21l v21u v21w => ?_)
    have k22 := bd_e k19 (congrArg Int32.toInt v21w.symm)
    refine gf_if_eq (pc := 72) (tgt := 96) (ti_rfl v21) (by decide) dX3_closeBlock_72 (fun q23 => ?_) (fun q23 => ?_)
    ·
      have k24 := if_t k22 q23
      refine go_aload_n (pc := 96) rfl dX3_closeBlock_96 ?_
      refine gi_getF (pc := 97) (q := 36) hv13 fL_X3_28 rfl (Nat.le_of_ble_eq_true rfl) rfl (hv13.rf (by decide)) dX3_closeBlock_97 ?_
      refine gi_getF (pc := 100) (q := 39) hv13 fL_X3_128 rfl (Nat.le_of_ble_eq_true rfl) rfl (hv13.rf (by decide)) dX3_closeBlock_100 ?_
      refine go_iload_n (pc := 103) rfl dX3_closeBlock_103 ?_
      refine go_aload_n (pc := 104) rfl dX3_closeBlock_104 ?_
      refine gi_getF (pc := 105) (q := 46) hv13 fL_X3_39 rfl (Nat.le_of_ble_eq_true rfl) rfl (hv13.rf (by decide)) dX3_closeBlock_105 ?_
      refine go_aload_n (pc := 108) rfl dX3_closeBlock_108 ?_
      refine gi_get (pc := 109) (lo := 0) (hi := 7) hv13 fL_X3_32 rfl (Nat.le_of_ble_eq_true rfl) rfl rfl dX3_closeBlock_109 (fun v25 v25l v25u v25w => ?_)
      have v25r : v11 = h13.2.1 34 7 := (show v11 = h13.2.1 34 7 from by rw [hv13e]; exact g_iS.symm)
      have v25q : TI v25 ((v8.toInt - 1)) := by rw [v25w.trans v25r.symm]; exact e12
      refine gi_iald (pc := 112) (lo := -1) (hi := 127) (len := 7) hv13 v25q rfl (by omega) (by omega) (fun _ => rfl) dX3_closeBlock_112 (fun v26 v26l v26u v26w => ?_)
      have k27 := bd_e k24 (congrArg Int32.toInt v26w.symm)
      refine gi_iast (pc := 113) (lo := -1) (hi := 127) (len := 128) hv13 (ti_rfl v16) (ti_rfl v26) rfl (by omega) (by omega) (fun _ => rfl) (by omega) (by omega) (by decide) dX3_closeBlock_113 (fun h28 hv28 hv28e => ?_)
      have pr28 : PR h → PR h28 := fun z => by rw [hv28e]; exact PR.put hv13 (pr13 z) (by omega)
      have fx28 : FX KC0 h h28 := FX.pI fx13 hv28e (by unfold KC0; omega)
      have k29 := bd_e k27 (st_I hv28e (ti_rfl v26))
      refine go_aload_n (pc := 114) rfl dX3_closeBlock_114 ?_
      refine go_iload_n (pc := 115) rfl dX3_closeBlock_115 ?_
      have g30 : (0 : Int) ≤ (h28.2.1 34 2).toInt := (hv28.2.1 34 2).1
      have g31 : (h28.2.1 34 2).toInt ≤ 500 := (hv28.2.1 34 2).2
      have g32 : (0 : Int) ≤ (h28.2.1 34 7).toInt := (hv28.2.1 34 7).1
      have g33 : (h28.2.1 34 7).toInt ≤ 7 := (hv28.2.1 34 7).2
      have g34 : (h28.2.1 34 2).toInt = (v1.toInt + 1) := by rw [← (show v4 = h28.2.1 34 2 from (show v4 = h28.2.1 34 2 from by rw [hv28e]; exact (g_iI rfl (show v4 = h13.2.1 34 2 from by rw [hv13e]; exact (g_iI rfl (show v4 = h6.2.1 34 2 from by rw [hv6e]; exact g_iS.symm).symm).symm).symm).symm))] <;> exact e5
      have g35 : (h28.2.1 34 7).toInt = (v8.toInt - 1) := by rw [← (show v11 = h28.2.1 34 7 from (show v11 = h28.2.1 34 7 from by rw [hv28e]; exact (g_iI rfl (show v11 = h13.2.1 34 7 from by rw [hv13e]; exact g_iS.symm).symm).symm))] <;> exact e12
      refine go_invV (pc := 116) (sl := 0) (s_X3_readSecond_f l (d + 0) hv28 v16 (by rw [show (v16 : Int32).toInt = v16.toInt from (ti_rfl v16)]; omega) (by rw [show (v16 : Int32).toInt = v16.toInt from (ti_rfl v16)]; omega)) mL_X3_131 iM_X3_readSecond sM_X3_readSecond (hv28.sh rfl) rfl rfl rfl (Nat.le_of_ble_eq_true rfl) (show d + 0 + 3 + 1 ≤ d + 4 by omega) (show 8 + (5 + 11) + 40 * (d + 0 + 3) ≤ 40 * (d + 4) by omega) (g_c0 hv28.ln) (Nat.le_of_ble_eq_true rfl) dX3_closeBlock_116 ?_
      intro r h36 hq _
      obtain ⟨rfl, hv36, f37, f38, pt36⟩ := hq
      have pr36 : PR h → PR h36 := fun z => pt36 (pr28 z)
      have fx36 : FX KC0 h h36 := FX.tr fx28 f38
      have k39 := bd_e k29 f37.symm
      obtain ⟨u40, u40w⟩ : ∃ v : Int32, v = h36.2.1 34 2 := ⟨_, rfl⟩
      have u40e : (h36.2.1 34 2).toInt = u40.toInt := by rw [u40w]
      have u40l : 0 ≤ u40.toInt := by rw [u40w]; exact (hv36.2.1 34 2).1
      have u40u : u40.toInt ≤ 500 := by rw [u40w]; exact (hv36.2.1 34 2).2
      have k41 := k39
      obtain ⟨u42, u42w⟩ : ∃ v : Int32, v = h36.2.1 34 7 := ⟨_, rfl⟩
      have u42e : (h36.2.1 34 7).toInt = u42.toInt := by rw [u42w]
      have u42l : 0 ≤ u42.toInt := by rw [u42w]; exact (hv36.2.1 34 7).1
      have u42u : u42.toInt ≤ 7 := by rw [u42w]; exact (hv36.2.1 34 7).2
      have k43 := k41
      exact gi_vret (pc := 119) ⟨rfl, hv36, (k43.symm.trans kf), fx36, pr36⟩ hv36 dX3_closeBlock_119
    ·
      have k44 := if_f k22 q23
      refine go_aload_n (pc := 75) rfl dX3_closeBlock_75 ?_
      refine gi_getF (pc := 76) (q := 36) hv13 fL_X3_28 rfl (Nat.le_of_ble_eq_true rfl) rfl (hv13.rf (by decide)) dX3_closeBlock_76 ?_
      refine gi_getF (pc := 79) (q := 40) hv13 fL_X3_125 rfl (Nat.le_of_ble_eq_true rfl) rfl (hv13.rf (by decide)) dX3_closeBlock_79 ?_
      refine go_iload_n (pc := 82) rfl dX3_closeBlock_82 ?_
      refine go_aload_n (pc := 83) rfl dX3_closeBlock_83 ?_
      refine gi_getF (pc := 84) (q := 46) hv13 fL_X3_39 rfl (Nat.le_of_ble_eq_true rfl) rfl (hv13.rf (by decide)) dX3_closeBlock_84 ?_
      refine go_aload_n (pc := 87) rfl dX3_closeBlock_87 ?_
      refine gi_get (pc := 88) (lo := 0) (hi := 7) hv13 fL_X3_32 rfl (Nat.le_of_ble_eq_true rfl) rfl rfl dX3_closeBlock_88 (fun v45 v45l v45u v45w => ?_)
      have v45r : v11 = h13.2.1 34 7 := (show v11 = h13.2.1 34 7 from by rw [hv13e]; exact g_iS.symm)
      have v45q : TI v45 ((v8.toInt - 1)) := by rw [v45w.trans v45r.symm]; exact e12
      refine gi_iald (pc := 91) (lo := -1) (hi := 127) (len := 7) hv13 v45q rfl (by omega) (by omega) (fun _ => rfl) dX3_closeBlock_91 (fun v46 v46l v46u v46w => ?_)
      have k47 := bd_e k44 (congrArg Int32.toInt v46w.symm)
      refine gi_iast (pc := 92) (lo := -1) (hi := 127) (len := 128) hv13 (ti_rfl v16) (ti_rfl v46) rfl (by omega) (by omega) (fun _ => rfl) (by omega) (by omega) (by decide) dX3_closeBlock_92 (fun h48 hv48 hv48e => ?_)
      have pr48 : PR h → PR h48 := fun z => by rw [hv48e]; exact PR.put hv13 (pr13 z) (by omega)
      have fx48 : FX KC0 h h48 := FX.pI fx13 hv48e (by unfold KC0; omega)
      have k49 := bd_e k47 (st_I hv48e (ti_rfl v46))
      refine go_goto (pc := 93) (tgt := 119) (by decide) dX3_closeBlock_93 ?_
      exact gi_vret (pc := 119) ⟨rfl, hv48, (k49.symm.trans kf), fx48, pr48⟩ hv48 dX3_closeBlock_119
  ·
    have k50 := if_f k17 (Int.not_le.mpr q18)
    refine go_aload_n (pc := 34) rfl dX3_closeBlock_34 ?_
    refine gi_getF (pc := 35) (q := 36) hv13 fL_X3_28 rfl (Nat.le_of_ble_eq_true rfl) rfl (hv13.rf (by decide)) dX3_closeBlock_35 ?_
    refine gi_getF (pc := 38) (q := 44) hv13 fL_X3_122 rfl (Nat.le_of_ble_eq_true rfl) rfl (hv13.rf (by decide)) dX3_closeBlock_38 ?_
    refine go_aload_n (pc := 41) rfl dX3_closeBlock_41 ?_
    refine gi_getC (pc := 42) hv13 fL_X3_46 rfl (Nat.le_of_ble_eq_true rfl) rfl (by decide) dX3_closeBlock_42 (fun c51 hc51 fc51 => ?_)
    have k52 := bd_e k50 (st_c fc51)
    refine gi_get (pc := 45) (lo := 0) (hi := 5) hv13 fL_X3_115 (by rcases hc51 with rfl | rfl <;> rfl) (Nat.le_of_ble_eq_true rfl) rfl (by rcases hc51 with rfl | rfl <;> rfl) dX3_closeBlock_45 (fun v53 v53l v53u v53w => ?_)
    have k54 := bd_e k52 (congrArg Int32.toInt v53w.symm)
    have kq : 1 ≤ v53.toInt := by rw [v53w]; exact (pr13 hpr) c51 fc51
    refine go_iconst (pc := 48) (v := 1) (by decide) dX3_closeBlock_48 ?_
    refine gf_isub (pc := 49) (ti_rfl v53) (ti_c (v := 1) (a := 1) (by decide)) (by omega) (by omega) dX3_closeBlock_49 (fun v55 e56 => ?_)
    refine go_aload_n (pc := 50) rfl dX3_closeBlock_50 ?_
    refine gi_getF (pc := 51) (q := 46) hv13 fL_X3_39 rfl (Nat.le_of_ble_eq_true rfl) rfl (hv13.rf (by decide)) dX3_closeBlock_51 ?_
    refine go_aload_n (pc := 54) rfl dX3_closeBlock_54 ?_
    refine gi_get (pc := 55) (lo := 0) (hi := 7) hv13 fL_X3_32 rfl (Nat.le_of_ble_eq_true rfl) rfl rfl dX3_closeBlock_55 (fun v57 v57l v57u v57w => ?_)
    have v57r : v11 = h13.2.1 34 7 := (show v11 = h13.2.1 34 7 from by rw [hv13e]; exact g_iS.symm)
    have v57q : TI v57 ((v8.toInt - 1)) := by rw [v57w.trans v57r.symm]; exact e12
    refine gi_iald (pc := 58) (lo := -1) (hi := 127) (len := 7) hv13 v57q rfl (by omega) (by omega) (fun _ => rfl) dX3_closeBlock_58 (fun v58 v58l v58u v58w => ?_)
    have k59 := bd_e k54 (congrArg Int32.toInt v58w.symm)
    refine gi_iast (pc := 59) (lo := -1) (hi := 127) (len := 5) hv13 e56 (ti_rfl v58) rfl (by omega) (by omega) (fun _ => rfl) (by omega) (by omega) (by decide) dX3_closeBlock_59 (fun h60 hv60 hv60e => ?_)
    have pr60 : PR h → PR h60 := fun z => by rw [hv60e]; exact PR.put hv13 (pr13 z) (by omega)
    have fx60 : FX KC0 h h60 := FX.pI fx13 hv60e (by unfold KC0; omega)
    have k61 := bd_e k59 (st_I hv60e (ti_rfl v58))
    refine go_goto (pc := 60) (tgt := 119) (by decide) dX3_closeBlock_60 ?_
    exact gi_vret (pc := 119) ⟨rfl, hv60, (k61.symm.trans kf), fx60, pr60⟩ hv60 dX3_closeBlock_119
def f_X3_readProcedure (s : ST) : ST :=
  bd2 (f_X3_look s) fun s5 v11 => bd (s5.1 34 2) fun u13 => if v11 < 65 then (bd (f_X3_blame s5 1 u13) fun s26 => s26) else (if v11 ≤ 90 then (bd (s5.2.2 34 4) fun c41 => bd (s5.1 c41 1) fun v43 => if 5 ≤ v43 then (bd (f_X3_blame s5 3 u13) fun s54 => s54) else (bd (s5.2.2 34 4) fun c67 => bd (s5.1 c67 1) fun v69 => if v11 = (65 + v69) then (bd (sI s5 34 2 ((u13 + 1))) fun s78 => bd (s78.2.2 34 4) fun c80 => bd (s78.1 c80 1) fun v82 => bd (sI s78 c80 1 ((v82 + 1))) fun s86 => bd (f_X3_openBlock s86 (-1) 0) fun s94 => s94) else (bd (f_X3_blame s5 3 u13) fun s110 => s110))) else (bd (f_X3_blame s5 1 u13) fun s130 => s130))
set_option maxHeartbeats 4000000 in
set_option maxRecDepth 100000 in
theorem s_X3_readProcedure_f (l : Launch) (d : Nat) {P : PP} {h : HP} (hv : Iv P h)  : Mt l yX3_readProcedure cX3_readProcedure 2 none (d + 3) [.ref 34] h 0 0 (fun r h' => r = none ∧ Iv P h' ∧ ((h'.2.1 34 3).toInt = 0 → PR h') ∧ (st h' = f_X3_readProcedure (st h)) ∧ (FX KC0 h h')) := by
  refine Mt_iv hv (by decide) (Nat.le_of_ble_eq_true rfl) ?_
  show Go l RX3 cX3_readProcedure 2 (g_rm (d + 3) 0 0) "readProcedure" none 117 0 0 (fun _ _ => True) (fun r h' => r = none ∧ Iv P h' ∧ ((h'.2.1 34 3).toInt = 0 → PR h') ∧ (st h' = f_X3_readProcedure (st h)) ∧ (FX KC0 h h')) 0 0 [(0, .ref 34)] [] h
  have fx : FX KC0 h h := FX.rfl
  obtain ⟨fin, kf⟩ : ∃ z, z = f_X3_readProcedure (st h) := ⟨_, _root_.rfl⟩
  have k0 := kf
  unfold f_X3_readProcedure at k0
  refine go_aload_n (pc := 0) rfl dX3_readProcedure_0 ?_
  have g1 : (0 : Int) ≤ (h.2.1 34 2).toInt := (hv.2.1 34 2).1
  have g2 : (h.2.1 34 2).toInt ≤ 500 := (hv.2.1 34 2).2
  have g3 : (-2147483648 : Int) ≤ (h.2.1 34 3).toInt := (hv.2.1 34 3).1
  have g4 : (h.2.1 34 3).toInt ≤ 2147483647 := (hv.2.1 34 3).2
  refine go_invV (pc := 1) (sl := 0) (s_X3_look_f l (d + 1) hv ) mL_X3_66 iM_X3_look sM_X3_look (hv.sh rfl) rfl rfl rfl (Nat.le_of_ble_eq_true rfl) (show d + 1 + 1 + 1 ≤ d + 3 by omega) (show 8 + (1 + 11) + 40 * (d + 1 + 1) ≤ 40 * (d + 3) by omega) (g_c0 hv.ln) (Nat.le_of_ble_eq_true rfl) dX3_readProcedure_1 ?_
  intro r h5 hq _
  obtain ⟨v11, rfl, v11l, v11u, hv5, f6, f7, f8, f9, f10, pt5⟩ := hq
  have fx5 : FX KC0 h h5 := FX.tr fx f10
  have k12 := bd2_e k0 f9
  obtain ⟨u13, u13w⟩ : ∃ v : Int32, v = h5.2.1 34 2 := ⟨_, rfl⟩
  have u13e : (h5.2.1 34 2).toInt = u13.toInt := by rw [u13w]
  have u13l : 0 ≤ u13.toInt := by rw [u13w]; exact (hv5.2.1 34 2).1
  have u13u : u13.toInt ≤ 500 := by rw [u13w]; exact (hv5.2.1 34 2).2
  have k14 := bd_e k12 (congrArg Int32.toInt u13w.symm)
  obtain ⟨u15, u15w⟩ : ∃ v : Int32, v = h5.2.1 34 3 := ⟨_, rfl⟩
  have u15e : (h5.2.1 34 3).toInt = u15.toInt := by rw [u15w]
  have u15l : -2147483648 ≤ u15.toInt := by rw [u15w]; exact (hv5.2.1 34 3).1
  have u15u : u15.toInt ≤ 2147483647 := by rw [u15w]; exact (hv5.2.1 34 3).2
  have k16 := k14
  refine go_istore_n (pc := 4) (Nat.le_of_ble_eq_true rfl) dX3_readProcedure_4 (go_lv (lv2 := [(0, .ref 34), (1, .int v11)]) rfl ?_)
  refine go_iload_n (pc := 5) rfl dX3_readProcedure_5 ?_
  refine go_bipush (pc := 6) (v := 65) (by decide) dX3_readProcedure_6 ?_
  refine gf_icmp_lt (pc := 8) (tgt := 17) (ti_rfl v11) (ti_c (v := 65) (a := 65) (by decide)) (by decide) dX3_readProcedure_8 (fun q17 => ?_) (fun q17 => ?_)
  ·
    have k18 := if_t k16 q17
    refine go_aload_n (pc := 17) rfl dX3_readProcedure_17 ?_
    refine go_iconst (pc := 18) (v := 1) (by decide) dX3_readProcedure_18 ?_
    refine go_aload_n (pc := 19) rfl dX3_readProcedure_19 ?_
    refine gi_get (pc := 20) (lo := 0) (hi := 500) hv5 fL_X3_19 rfl (Nat.le_of_ble_eq_true rfl) rfl rfl dX3_readProcedure_20 (fun v19 v19l v19u v19w => ?_)
    have v19r : u13 = h5.2.1 34 2 := u13w
    have v19q : TI v19 u13.toInt := by rw [v19w.trans v19r.symm]; exact (ti_rfl u13)
    have g20 : (0 : Int) ≤ (h5.2.1 34 2).toInt := (hv5.2.1 34 2).1
    have g21 : (h5.2.1 34 2).toInt ≤ 500 := (hv5.2.1 34 2).2
    have g22 : (-2147483648 : Int) ≤ (h5.2.1 34 3).toInt := (hv5.2.1 34 3).1
    have g23 : (h5.2.1 34 3).toInt ≤ 2147483647 := (hv5.2.1 34 3).2
    have g24 : (h5.2.1 34 2).toInt = u13.toInt := by rw [← (show u13 = h5.2.1 34 2 from u13w)] <;> exact (ti_rfl u13)
    have g25 : (h5.2.1 34 3).toInt = u15.toInt := by rw [← (show u15 = h5.2.1 34 3 from u15w)] <;> exact (ti_rfl u15)
    refine go_invV (pc := 23) (sl := 0) (s_X3_blame_f l (d + 1) hv5 1 (by rw [show (1 : Int32).toInt = 1 from (ti_c (v := 1) (a := 1) (by decide))]; omega) (by rw [show (1 : Int32).toInt = 1 from (ti_c (v := 1) (a := 1) (by decide))]; omega) v19 (by rw [show (v19 : Int32).toInt = u13.toInt from v19q]; omega) (by rw [show (v19 : Int32).toInt = u13.toInt from v19q]; omega)) mL_X3_101 iM_X3_blame sM_X3_blame (hv5.sh rfl) rfl rfl rfl (Nat.le_of_ble_eq_true rfl) (show d + 1 + 1 + 1 ≤ d + 3 by omega) (show 8 + (3 + 11) + 40 * (d + 1 + 1) ≤ 40 * (d + 3) by omega) (g_c0 hv5.ln) (Nat.le_of_ble_eq_true rfl) dX3_readProcedure_23 ?_
    intro r h26 hq _
    obtain ⟨rfl, hv26, f27, f28, f29, f30, f31, f32, pt26⟩ := hq
    try rw [show (1 : Int32).toInt = 1 from (ti_c (v := 1) (a := 1) (by decide))] at f27
    try rw [show (v19 : Int32).toInt = u13.toInt from v19q] at f27
    try rw [show (1 : Int32).toInt = 1 from (ti_c (v := 1) (a := 1) (by decide))] at f28
    try rw [show (v19 : Int32).toInt = u13.toInt from v19q] at f28
    try rw [show (1 : Int32).toInt = 1 from (ti_c (v := 1) (a := 1) (by decide))] at f29
    try rw [show (v19 : Int32).toInt = u13.toInt from v19q] at f29
    try rw [show (1 : Int32).toInt = 1 from (ti_c (v := 1) (a := 1) (by decide))] at f30
    try rw [show (v19 : Int32).toInt = u13.toInt from v19q] at f30
    try rw [show (1 : Int32).toInt = 1 from (ti_c (v := 1) (a := 1) (by decide))] at f31
    try rw [show (v19 : Int32).toInt = u13.toInt from v19q] at f31
    try rw [show (1 : Int32).toInt = 1 from (ti_c (v := 1) (a := 1) (by decide))] at f32
    try rw [show (v19 : Int32).toInt = u13.toInt from v19q] at f32
    have fx26 : FX KC0 h h26 := FX.tr fx5 f32
    have k33 := bd_e k18 f31.symm
    obtain ⟨u34, u34w⟩ : ∃ v : Int32, v = h26.2.1 34 2 := ⟨_, rfl⟩
    have u34e : (h26.2.1 34 2).toInt = u34.toInt := by rw [u34w]
    have u34l : 0 ≤ u34.toInt := by rw [u34w]; exact (hv26.2.1 34 2).1
    have u34u : u34.toInt ≤ 500 := by rw [u34w]; exact (hv26.2.1 34 2).2
    have k35 := k33
    obtain ⟨u36, u36w⟩ : ∃ v : Int32, v = h26.2.1 34 3 := ⟨_, rfl⟩
    have u36e : (h26.2.1 34 3).toInt = u36.toInt := by rw [u36w]
    have u36l : -2147483648 ≤ u36.toInt := by rw [u36w]; exact (hv26.2.1 34 3).1
    have u36u : u36.toInt ≤ 2147483647 := by rw [u36w]; exact (hv26.2.1 34 3).2
    have k37 := k35
    refine go_goto (pc := 26) (tgt := 95) (by decide) dX3_readProcedure_26 ?_
    exact gi_vret (pc := 95) ⟨rfl, hv26, (fun q => absurd q f27), (k37.symm.trans kf), fx26⟩ hv26 dX3_readProcedure_95
  ·
    have k38 := if_f k16 (Int.not_lt.mpr q17)
    refine go_iload_n (pc := 11) rfl dX3_readProcedure_11 ?_
    refine go_bipush (pc := 12) (v := 90) (by decide) dX3_readProcedure_12 ?_
    refine gf_icmp_le (pc := 14) (tgt := 29) (ti_rfl v11) (ti_c (v := 90) (a := 90) (by decide)) (by decide) dX3_readProcedure_14 (fun q39 => ?_) (fun q39 => ?_)
    ·
      have k40 := if_t k38 q39
      refine go_aload_n (pc := 29) rfl dX3_readProcedure_29 ?_
      refine gi_getC (pc := 30) hv5 fL_X3_46 rfl (Nat.le_of_ble_eq_true rfl) rfl (by decide) dX3_readProcedure_30 (fun c41 hc41 fc41 => ?_)
      have k42 := bd_e k40 (st_c fc41)
      refine gi_get (pc := 33) (lo := 0) (hi := 5) hv5 fL_X3_115 (by rcases hc41 with rfl | rfl <;> rfl) (Nat.le_of_ble_eq_true rfl) rfl (by rcases hc41 with rfl | rfl <;> rfl) dX3_readProcedure_33 (fun v43 v43l v43u v43w => ?_)
      have k44 := bd_e k42 (congrArg Int32.toInt v43w.symm)
      refine go_iconst (pc := 36) (v := 5) (by decide) dX3_readProcedure_36 ?_
      refine gf_icmp_ge (pc := 37) (tgt := 54) (ti_rfl v43) (ti_c (v := 5) (a := 5) (by decide)) (by decide) dX3_readProcedure_37 (fun q45 => ?_) (fun q45 => ?_)
      ·
        have k46 := if_t k44 q45
        refine go_aload_n (pc := 54) rfl dX3_readProcedure_54 ?_
        refine go_iconst (pc := 55) (v := 3) (by decide) dX3_readProcedure_55 ?_
        refine go_aload_n (pc := 56) rfl dX3_readProcedure_56 ?_
        refine gi_get (pc := 57) (lo := 0) (hi := 500) hv5 fL_X3_19 rfl (Nat.le_of_ble_eq_true rfl) rfl rfl dX3_readProcedure_57 (fun v47 v47l v47u v47w => ?_)
        have v47r : u13 = h5.2.1 34 2 := u13w
        have v47q : TI v47 u13.toInt := by rw [v47w.trans v47r.symm]; exact (ti_rfl u13)
        have g48 : (0 : Int) ≤ (h5.2.1 34 2).toInt := (hv5.2.1 34 2).1
        have g49 : (h5.2.1 34 2).toInt ≤ 500 := (hv5.2.1 34 2).2
        have g50 : (-2147483648 : Int) ≤ (h5.2.1 34 3).toInt := (hv5.2.1 34 3).1
        have g51 : (h5.2.1 34 3).toInt ≤ 2147483647 := (hv5.2.1 34 3).2
        have g52 : (h5.2.1 34 2).toInt = u13.toInt := by rw [← (show u13 = h5.2.1 34 2 from u13w)] <;> exact (ti_rfl u13)
        have g53 : (h5.2.1 34 3).toInt = u15.toInt := by rw [← (show u15 = h5.2.1 34 3 from u15w)] <;> exact (ti_rfl u15)
        refine go_invV (pc := 60) (sl := 0) (s_X3_blame_f l (d + 1) hv5 3 (by rw [show (3 : Int32).toInt = 3 from (ti_c (v := 3) (a := 3) (by decide))]; omega) (by rw [show (3 : Int32).toInt = 3 from (ti_c (v := 3) (a := 3) (by decide))]; omega) v47 (by rw [show (v47 : Int32).toInt = u13.toInt from v47q]; omega) (by rw [show (v47 : Int32).toInt = u13.toInt from v47q]; omega)) mL_X3_101 iM_X3_blame sM_X3_blame (hv5.sh rfl) rfl rfl rfl (Nat.le_of_ble_eq_true rfl) (show d + 1 + 1 + 1 ≤ d + 3 by omega) (show 8 + (3 + 11) + 40 * (d + 1 + 1) ≤ 40 * (d + 3) by omega) (g_c0 hv5.ln) (Nat.le_of_ble_eq_true rfl) dX3_readProcedure_60 ?_
        intro r h54 hq _
        obtain ⟨rfl, hv54, f55, f56, f57, f58, f59, f60, pt54⟩ := hq
        try rw [show (3 : Int32).toInt = 3 from (ti_c (v := 3) (a := 3) (by decide))] at f55
        try rw [show (v47 : Int32).toInt = u13.toInt from v47q] at f55
        try rw [show (3 : Int32).toInt = 3 from (ti_c (v := 3) (a := 3) (by decide))] at f56
        try rw [show (v47 : Int32).toInt = u13.toInt from v47q] at f56
        try rw [show (3 : Int32).toInt = 3 from (ti_c (v := 3) (a := 3) (by decide))] at f57
        try rw [show (v47 : Int32).toInt = u13.toInt from v47q] at f57
        try rw [show (3 : Int32).toInt = 3 from (ti_c (v := 3) (a := 3) (by decide))] at f58
        try rw [show (v47 : Int32).toInt = u13.toInt from v47q] at f58
        try rw [show (3 : Int32).toInt = 3 from (ti_c (v := 3) (a := 3) (by decide))] at f59
        try rw [show (v47 : Int32).toInt = u13.toInt from v47q] at f59
        try rw [show (3 : Int32).toInt = 3 from (ti_c (v := 3) (a := 3) (by decide))] at f60
        try rw [show (v47 : Int32).toInt = u13.toInt from v47q] at f60
        have fx54 : FX KC0 h h54 := FX.tr fx5 f60
        have k61 := bd_e k46 f59.symm
        obtain ⟨u62, u62w⟩ : ∃ v : Int32, v = h54.2.1 34 2 := ⟨_, rfl⟩
        have u62e : (h54.2.1 34 2).toInt = u62.toInt := by rw [u62w]
        have u62l : 0 ≤ u62.toInt := by rw [u62w]; exact (hv54.2.1 34 2).1
        have u62u : u62.toInt ≤ 500 := by rw [u62w]; exact (hv54.2.1 34 2).2
        have k63 := k61
        obtain ⟨u64, u64w⟩ : ∃ v : Int32, v = h54.2.1 34 3 := ⟨_, rfl⟩
        have u64e : (h54.2.1 34 3).toInt = u64.toInt := by rw [u64w]
        have u64l : -2147483648 ≤ u64.toInt := by rw [u64w]; exact (hv54.2.1 34 3).1
        have u64u : u64.toInt ≤ 2147483647 := by rw [u64w]; exact (hv54.2.1 34 3).2
        have k65 := k63
        refine go_goto (pc := 63) (tgt := 95) (by decide) dX3_readProcedure_63 ?_
        exact gi_vret (pc := 95) ⟨rfl, hv54, (fun q => absurd q f55), (k65.symm.trans kf), fx54⟩ hv54 dX3_readProcedure_95
      ·
        have k66 := if_f k44 (Int.not_le.mpr q45)
        refine go_iload_n (pc := 40) rfl dX3_readProcedure_40 ?_
        refine go_bipush (pc := 41) (v := 65) (by decide) dX3_readProcedure_41 ?_
        refine go_aload_n (pc := 43) rfl dX3_readProcedure_43 ?_
        refine gi_getC (pc := 44) hv5 fL_X3_46 rfl (Nat.le_of_ble_eq_true rfl) rfl (by decide) dX3_readProcedure_44 (fun c67 hc67 fc67 => ?_)
        have k68 := bd_e k66 (st_c fc67)
        refine gi_get (pc := 47) (lo := 0) (hi := 5) hv5 fL_X3_115 (by rcases hc67 with rfl | rfl <;> rfl) (Nat.le_of_ble_eq_true rfl) rfl (by rcases hc67 with rfl | rfl <;> rfl) dX3_readProcedure_47 (fun v69 v69l v69u v69w => ?_)
        have k70 := bd_e k68 (congrArg Int32.toInt v69w.symm)
        refine gf_iadd (pc := 50) (ti_c (v := 65) (a := 65) (by decide)) (ti_rfl v69) (by omega) (by omega) dX3_readProcedure_50 (fun v71 e72 => ?_)
        refine gf_icmp_eq (pc := 51) (tgt := 66) (ti_rfl v11) e72 (by decide) dX3_readProcedure_51 (fun q73 => ?_) (fun q73 => ?_)
        ·
          have k74 := if_t k70 q73
          refine go_aload_n (pc := 66) rfl dX3_readProcedure_66 ?_
          refine go_dup (pc := 67) rfl dX3_readProcedure_67 ?_
          refine gi_get (pc := 68) (lo := 0) (hi := 500) hv5 fL_X3_19 rfl (Nat.le_of_ble_eq_true rfl) rfl rfl dX3_readProcedure_68 (fun v75 v75l v75u v75w => ?_)
          have v75r : u13 = h5.2.1 34 2 := u13w
          have v75q : TI v75 u13.toInt := by rw [v75w.trans v75r.symm]; exact (ti_rfl u13)
          refine go_iconst (pc := 71) (v := 1) (by decide) dX3_readProcedure_71 ?_
          refine gf_iadd (pc := 72) v75q (ti_c (v := 1) (a := 1) (by decide)) (by omega) (by omega) dX3_readProcedure_72 (fun v76 e77 => ?_)
          refine gi_put (pc := 73) (lo := 0) (hi := 500) hv5 e77 (fP_X3_19 _) rfl (Nat.le_of_ble_eq_true rfl) rfl rfl (by omega) (by omega) rfl rfl (by decide) (by decide) (by decide) (by decide) dX3_readProcedure_73 (fun h78 hv78 hv78e => ?_)
          have fx78 : FX KC0 h h78 := FX.pI fx5 hv78e (by unfold KC0; omega)
          have k79 := bd_e k74 (st_I hv78e e77)
          refine go_aload_n (pc := 76) rfl dX3_readProcedure_76 ?_
          refine gi_getC (pc := 77) hv78 fL_X3_46 rfl (Nat.le_of_ble_eq_true rfl) rfl (by decide) dX3_readProcedure_77 (fun c80 hc80 fc80 => ?_)
          have k81 := bd_e k79 (st_c fc80)
          refine go_dup (pc := 80) rfl dX3_readProcedure_80 ?_
          refine gi_get (pc := 81) (lo := 0) (hi := 5) hv78 fL_X3_115 (by rcases hc80 with rfl | rfl <;> rfl) (Nat.le_of_ble_eq_true rfl) rfl (by rcases hc80 with rfl | rfl <;> rfl) dX3_readProcedure_81 (fun v82 v82l v82u v82w => ?_)
          have k83 := bd_e k81 (congrArg Int32.toInt v82w.symm)
          have kk : v82.toInt ≤ 4 := by
            have e : Value.ref c41 = .ref c80 := fc41.symm.trans (by rw [hv78e] at fc80; exact fc80)
            cases e
            rw [v82w, hv78e]
            show (if c41 = 34 ∧ 1 = 2 then _ else h5.2.1 c41 1).toInt ≤ 4
            rw [if_neg (by omega), ← v43w]
            omega
          refine go_iconst (pc := 84) (v := 1) (by decide) dX3_readProcedure_84 ?_
          refine gf_iadd (pc := 85) (ti_rfl v82) (ti_c (v := 1) (a := 1) (by decide)) (by omega) (by omega) dX3_readProcedure_85 (fun v84 e85 => ?_)
          refine gi_put (pc := 86) (lo := 0) (hi := 5) hv78 e85 (fP_X3_115 _) (by rcases hc80 with rfl | rfl <;> rfl) (Nat.le_of_ble_eq_true rfl) rfl (by rcases hc80 with rfl | rfl <;> rfl) (by omega) (by omega) rfl rfl (by rcases hc80 with rfl | rfl <;> decide) (by rcases hc80 with rfl | rfl <;> decide) (by rcases hc80 with rfl | rfl <;> decide) (by rcases hc80 with rfl | rfl <;> decide) dX3_readProcedure_86 (fun h86 hv86 hv86e => ?_)
          have fx86 : FX KC0 h h86 := FX.pI fx78 hv86e (by unfold KC0; omega)
          have k87 := bd_e k83 (st_I hv86e e85)
          have prz : PR h86 := by
            intro c e
            have e2 : Value.ref c80 = .ref c := fc80.symm.trans (by rw [hv86e] at e; exact e)
            cases e2
            rw [hv86e]
            show 1 ≤ (if c80 = c80 ∧ 1 = 1 then v84 else _).toInt
            rw [if_pos ⟨rfl, rfl⟩, show (v84 : Int32).toInt = (v82.toInt + 1) from e85]
            omega
          refine go_aload_n (pc := 89) rfl dX3_readProcedure_89 ?_
          refine go_iconst (pc := 90) (v := (-1)) (by decide) dX3_readProcedure_90 ?_
          refine go_iconst (pc := 91) (v := 0) (by decide) dX3_readProcedure_91 ?_
          have g88 : (0 : Int) ≤ (h86.2.1 34 2).toInt := (hv86.2.1 34 2).1
          have g89 : (h86.2.1 34 2).toInt ≤ 500 := (hv86.2.1 34 2).2
          have g90 : (-2147483648 : Int) ≤ (h86.2.1 34 3).toInt := (hv86.2.1 34 3).1
          have g91 : (h86.2.1 34 3).toInt ≤ 2147483647 := (hv86.2.1 34 3).2
          have g92 : (h86.2.1 34 3).toInt = u15.toInt := by rw [← (show u15 = h86.2.1 34 3 from (show u15 = h86.2.1 34 3 from by rw [hv86e]; exact (g_iIc (by omega) (by decide) (show u15 = h78.2.1 34 3 from by rw [hv78e]; exact (g_iI rfl u15w.symm).symm).symm).symm))] <;> exact (ti_rfl u15)
          have g93 : (h86.2.1 34 2).toInt = (u13.toInt + 1) := by rw [← (show v76 = h86.2.1 34 2 from (show v76 = h86.2.1 34 2 from by rw [hv86e]; exact (g_iIc (by omega) (by decide) (show v76 = h78.2.1 34 2 from by rw [hv78e]; exact g_iS.symm).symm).symm))] <;> exact e77
          refine go_invV (pc := 92) (sl := 0) (s_X3_openBlock_f l (d + 0) hv86 (-1) (by rw [show ((-1) : Int32).toInt = (-1) from (ti_c (v := (-1)) (a := (-1)) (by decide))]; omega) (by rw [show ((-1) : Int32).toInt = (-1) from (ti_c (v := (-1)) (a := (-1)) (by decide))]; omega) 0 (by rw [show (0 : Int32).toInt = 0 from (ti_c (v := 0) (a := 0) (by decide))]; omega) (by rw [show (0 : Int32).toInt = 0 from (ti_c (v := 0) (a := 0) (by decide))]; omega)) mL_X3_118 iM_X3_openBlock sM_X3_openBlock (hv86.sh rfl) rfl rfl rfl (Nat.le_of_ble_eq_true rfl) (show d + 0 + 2 + 1 ≤ d + 3 by omega) (show 8 + (3 + 11) + 40 * (d + 0 + 2) ≤ 40 * (d + 3) by omega) (g_c0 hv86.ln) (Nat.le_of_ble_eq_true rfl) dX3_readProcedure_92 ?_
          intro r h94 hq _
          obtain ⟨rfl, hv94, f95, f96, pt94⟩ := hq
          try rw [show ((-1) : Int32).toInt = (-1) from (ti_c (v := (-1)) (a := (-1)) (by decide))] at f95
          try rw [show (0 : Int32).toInt = 0 from (ti_c (v := 0) (a := 0) (by decide))] at f95
          try rw [show ((-1) : Int32).toInt = (-1) from (ti_c (v := (-1)) (a := (-1)) (by decide))] at f96
          try rw [show (0 : Int32).toInt = 0 from (ti_c (v := 0) (a := 0) (by decide))] at f96
          have fx94 : FX KC0 h h94 := FX.tr fx86 f96
          have k97 := bd_e k87 f95.symm
          obtain ⟨u98, u98w⟩ : ∃ v : Int32, v = h94.2.1 34 2 := ⟨_, rfl⟩
          have u98e : (h94.2.1 34 2).toInt = u98.toInt := by rw [u98w]
          have u98l : 0 ≤ u98.toInt := by rw [u98w]; exact (hv94.2.1 34 2).1
          have u98u : u98.toInt ≤ 500 := by rw [u98w]; exact (hv94.2.1 34 2).2
          have k99 := k97
          obtain ⟨u100, u100w⟩ : ∃ v : Int32, v = h94.2.1 34 3 := ⟨_, rfl⟩
          have u100e : (h94.2.1 34 3).toInt = u100.toInt := by rw [u100w]
          have u100l : -2147483648 ≤ u100.toInt := by rw [u100w]; exact (hv94.2.1 34 3).1
          have u100u : u100.toInt ≤ 2147483647 := by rw [u100w]; exact (hv94.2.1 34 3).2
          have k101 := k99
          exact gi_vret (pc := 95) ⟨rfl, hv94, (fun _ => pt94 prz), (k101.symm.trans kf), fx94⟩ hv94 dX3_readProcedure_95
        ·
          have k102 := if_f k70 q73
          refine go_aload_n (pc := 54) rfl dX3_readProcedure_54 ?_
          refine go_iconst (pc := 55) (v := 3) (by decide) dX3_readProcedure_55 ?_
          refine go_aload_n (pc := 56) rfl dX3_readProcedure_56 ?_
          refine gi_get (pc := 57) (lo := 0) (hi := 500) hv5 fL_X3_19 rfl (Nat.le_of_ble_eq_true rfl) rfl rfl dX3_readProcedure_57 (fun v103 v103l v103u v103w => ?_)
          have v103r : u13 = h5.2.1 34 2 := u13w
          have v103q : TI v103 u13.toInt := by rw [v103w.trans v103r.symm]; exact (ti_rfl u13)
          have g104 : (0 : Int) ≤ (h5.2.1 34 2).toInt := (hv5.2.1 34 2).1
          have g105 : (h5.2.1 34 2).toInt ≤ 500 := (hv5.2.1 34 2).2
          have g106 : (-2147483648 : Int) ≤ (h5.2.1 34 3).toInt := (hv5.2.1 34 3).1
          have g107 : (h5.2.1 34 3).toInt ≤ 2147483647 := (hv5.2.1 34 3).2
          have g108 : (h5.2.1 34 2).toInt = u13.toInt := by rw [← (show u13 = h5.2.1 34 2 from u13w)] <;> exact (ti_rfl u13)
          have g109 : (h5.2.1 34 3).toInt = u15.toInt := by rw [← (show u15 = h5.2.1 34 3 from u15w)] <;> exact (ti_rfl u15)
          refine go_invV (pc := 60) (sl := 0) (s_X3_blame_f l (d + 1) hv5 3 (by rw [show (3 : Int32).toInt = 3 from (ti_c (v := 3) (a := 3) (by decide))]; omega) (by rw [show (3 : Int32).toInt = 3 from (ti_c (v := 3) (a := 3) (by decide))]; omega) v103 (by rw [show (v103 : Int32).toInt = u13.toInt from v103q]; omega) (by rw [show (v103 : Int32).toInt = u13.toInt from v103q]; omega)) mL_X3_101 iM_X3_blame sM_X3_blame (hv5.sh rfl) rfl rfl rfl (Nat.le_of_ble_eq_true rfl) (show d + 1 + 1 + 1 ≤ d + 3 by omega) (show 8 + (3 + 11) + 40 * (d + 1 + 1) ≤ 40 * (d + 3) by omega) (g_c0 hv5.ln) (Nat.le_of_ble_eq_true rfl) dX3_readProcedure_60 ?_
          intro r h110 hq _
          obtain ⟨rfl, hv110, f111, f112, f113, f114, f115, f116, pt110⟩ := hq
          try rw [show (3 : Int32).toInt = 3 from (ti_c (v := 3) (a := 3) (by decide))] at f111
          try rw [show (v103 : Int32).toInt = u13.toInt from v103q] at f111
          try rw [show (3 : Int32).toInt = 3 from (ti_c (v := 3) (a := 3) (by decide))] at f112
          try rw [show (v103 : Int32).toInt = u13.toInt from v103q] at f112
          try rw [show (3 : Int32).toInt = 3 from (ti_c (v := 3) (a := 3) (by decide))] at f113
          try rw [show (v103 : Int32).toInt = u13.toInt from v103q] at f113
          try rw [show (3 : Int32).toInt = 3 from (ti_c (v := 3) (a := 3) (by decide))] at f114
          try rw [show (v103 : Int32).toInt = u13.toInt from v103q] at f114
          try rw [show (3 : Int32).toInt = 3 from (ti_c (v := 3) (a := 3) (by decide))] at f115
          try rw [show (v103 : Int32).toInt = u13.toInt from v103q] at f115
          try rw [show (3 : Int32).toInt = 3 from (ti_c (v := 3) (a := 3) (by decide))] at f116
          try rw [show (v103 : Int32).toInt = u13.toInt from v103q] at f116
          have fx110 : FX KC0 h h110 := FX.tr fx5 f116
          have k117 := bd_e k102 f115.symm
          obtain ⟨u118, u118w⟩ : ∃ v : Int32, v = h110.2.1 34 2 := ⟨_, rfl⟩
          have u118e : (h110.2.1 34 2).toInt = u118.toInt := by rw [u118w]
          have u118l : 0 ≤ u118.toInt := by rw [u118w]; exact (hv110.2.1 34 2).1
          have u118u : u118.toInt ≤ 500 := by rw [u118w]; exact (hv110.2.1 34 2).2
          have k119 := k117
          obtain ⟨u120, u120w⟩ : ∃ v : Int32, v = h110.2.1 34 3 := ⟨_, rfl⟩
          have u120e : (h110.2.1 34 3).toInt = u120.toInt := by rw [u120w]
          have u120l : -2147483648 ≤ u120.toInt := by rw [u120w]; exact (hv110.2.1 34 3).1
          have u120u : u120.toInt ≤ 2147483647 := by rw [u120w]; exact (hv110.2.1 34 3).2
          have k121 := k119
          refine go_goto (pc := 63) (tgt := 95) (by decide) dX3_readProcedure_63 ?_
          exact gi_vret (pc := 95) ⟨rfl, hv110, (fun q => absurd q f111), (k121.symm.trans kf), fx110⟩ hv110 dX3_readProcedure_95
    ·
      have k122 := if_f k38 (Int.not_le.mpr q39)
      refine go_aload_n (pc := 17) rfl dX3_readProcedure_17 ?_
      refine go_iconst (pc := 18) (v := 1) (by decide) dX3_readProcedure_18 ?_
      refine go_aload_n (pc := 19) rfl dX3_readProcedure_19 ?_
      refine gi_get (pc := 20) (lo := 0) (hi := 500) hv5 fL_X3_19 rfl (Nat.le_of_ble_eq_true rfl) rfl rfl dX3_readProcedure_20 (fun v123 v123l v123u v123w => ?_)
      have v123r : u13 = h5.2.1 34 2 := u13w
      have v123q : TI v123 u13.toInt := by rw [v123w.trans v123r.symm]; exact (ti_rfl u13)
      have g124 : (0 : Int) ≤ (h5.2.1 34 2).toInt := (hv5.2.1 34 2).1
      have g125 : (h5.2.1 34 2).toInt ≤ 500 := (hv5.2.1 34 2).2
      have g126 : (-2147483648 : Int) ≤ (h5.2.1 34 3).toInt := (hv5.2.1 34 3).1
      have g127 : (h5.2.1 34 3).toInt ≤ 2147483647 := (hv5.2.1 34 3).2
      have g128 : (h5.2.1 34 2).toInt = u13.toInt := by rw [← (show u13 = h5.2.1 34 2 from u13w)] <;> exact (ti_rfl u13)
      have g129 : (h5.2.1 34 3).toInt = u15.toInt := by rw [← (show u15 = h5.2.1 34 3 from u15w)] <;> exact (ti_rfl u15)
      refine go_invV (pc := 23) (sl := 0) (s_X3_blame_f l (d + 1) hv5 1 (by rw [show (1 : Int32).toInt = 1 from (ti_c (v := 1) (a := 1) (by decide))]; omega) (by rw [show (1 : Int32).toInt = 1 from (ti_c (v := 1) (a := 1) (by decide))]; omega) v123 (by rw [show (v123 : Int32).toInt = u13.toInt from v123q]; omega) (by rw [show (v123 : Int32).toInt = u13.toInt from v123q]; omega)) mL_X3_101 iM_X3_blame sM_X3_blame (hv5.sh rfl) rfl rfl rfl (Nat.le_of_ble_eq_true rfl) (show d + 1 + 1 + 1 ≤ d + 3 by omega) (show 8 + (3 + 11) + 40 * (d + 1 + 1) ≤ 40 * (d + 3) by omega) (g_c0 hv5.ln) (Nat.le_of_ble_eq_true rfl) dX3_readProcedure_23 ?_
      intro r h130 hq _
      obtain ⟨rfl, hv130, f131, f132, f133, f134, f135, f136, pt130⟩ := hq
      try rw [show (1 : Int32).toInt = 1 from (ti_c (v := 1) (a := 1) (by decide))] at f131
      try rw [show (v123 : Int32).toInt = u13.toInt from v123q] at f131
      try rw [show (1 : Int32).toInt = 1 from (ti_c (v := 1) (a := 1) (by decide))] at f132
      try rw [show (v123 : Int32).toInt = u13.toInt from v123q] at f132
      try rw [show (1 : Int32).toInt = 1 from (ti_c (v := 1) (a := 1) (by decide))] at f133
      try rw [show (v123 : Int32).toInt = u13.toInt from v123q] at f133
      try rw [show (1 : Int32).toInt = 1 from (ti_c (v := 1) (a := 1) (by decide))] at f134
      try rw [show (v123 : Int32).toInt = u13.toInt from v123q] at f134
      try rw [show (1 : Int32).toInt = 1 from (ti_c (v := 1) (a := 1) (by decide))] at f135
      try rw [show (v123 : Int32).toInt = u13.toInt from v123q] at f135
      try rw [show (1 : Int32).toInt = 1 from (ti_c (v := 1) (a := 1) (by decide))] at f136
      try rw [show (v123 : Int32).toInt = u13.toInt from v123q] at f136
      have fx130 : FX KC0 h h130 := FX.tr fx5 f136
      have k137 := bd_e k122 f135.symm
      obtain ⟨u138, u138w⟩ : ∃ v : Int32, v = h130.2.1 34 2 := ⟨_, rfl⟩
      have u138e : (h130.2.1 34 2).toInt = u138.toInt := by rw [u138w]
      have u138l : 0 ≤ u138.toInt := by rw [u138w]; exact (hv130.2.1 34 2).1
      have u138u : u138.toInt ≤ 500 := by rw [u138w]; exact (hv130.2.1 34 2).2
      have k139 := k137
      obtain ⟨u140, u140w⟩ : ∃ v : Int32, v = h130.2.1 34 3 := ⟨_, rfl⟩
      have u140e : (h130.2.1 34 3).toInt = u140.toInt := by rw [u140w]
      have u140l : -2147483648 ≤ u140.toInt := by rw [u140w]; exact (hv130.2.1 34 3).1
      have u140u : u140.toInt ≤ 2147483647 := by rw [u140w]; exact (hv130.2.1 34 3).2
      have k141 := k139
      refine go_goto (pc := 26) (tgt := 95) (by decide) dX3_readProcedure_26 ?_
      exact gi_vret (pc := 95) ⟨rfl, hv130, (fun q => absurd q f131), (k141.symm.trans kf), fx130⟩ hv130 dX3_readProcedure_95
def f_X0_clear (s : ST) (c1 : Nat) : ST :=
  bd (sI s c1 0 0) fun s4 => bd (sI s4 c1 1 0) fun s6 => bd (sL s6 c1 2 (0 : Int64)) fun s8 => bd (sI s8 c1 3 0) fun s10 => bd (sI s10 c1 4 0) fun s12 => s12
set_option maxHeartbeats 4000000 in
set_option maxRecDepth 100000 in
theorem s_X0_clear_f (l : Launch) (d : Nat) {P : PP} {h : HP} (hv : Iv P h) (c1 : Nat) (hc1 : c1 = 2 ∨ c1 = 18) : Mt l yX0_clear cX0_clear 1 none (d + 1) [.ref c1] h 0 0 (fun r h' => r = none ∧ Iv P h' ∧ ((h'.2.1 34 2).toInt = (h.2.1 34 2).toInt) ∧ ((h'.2.1 34 1).toInt = (h.2.1 34 1).toInt) ∧ ((h'.2.1 34 7).toInt = (h.2.1 34 7).toInt) ∧ (st h' = f_X0_clear (st h) c1) ∧ (FX KC0 h h')) := by
  refine Mt_iv hv (by decide) (Nat.le_of_ble_eq_true rfl) ?_
  show Go l RX0 cX0_clear 1 (g_rm (d + 1) 0 0) "clear" none 117 0 0 (fun _ _ => True) (fun r h' => r = none ∧ Iv P h' ∧ ((h'.2.1 34 2).toInt = (h.2.1 34 2).toInt) ∧ ((h'.2.1 34 1).toInt = (h.2.1 34 1).toInt) ∧ ((h'.2.1 34 7).toInt = (h.2.1 34 7).toInt) ∧ (st h' = f_X0_clear (st h) c1) ∧ (FX KC0 h h')) 0 0 [(0, .ref c1)] [] h
  have fx : FX KC0 h h := FX.rfl
  obtain ⟨fin, kf⟩ : ∃ z, z = f_X0_clear (st h) c1 := ⟨_, _root_.rfl⟩
  have k0 := kf
  unfold f_X0_clear at k0
  obtain ⟨u34_2, u34_2w⟩ : ∃ v : Int32, v = h.2.1 34 2 := ⟨_, rfl⟩
  have u34_2e : (h.2.1 34 2).toInt = u34_2.toInt := by rw [u34_2w]
  have u34_2l : 0 ≤ u34_2.toInt := by rw [u34_2w]; exact (hv.2.1 34 2).1
  have u34_2u : u34_2.toInt ≤ 500 := by rw [u34_2w]; exact (hv.2.1 34 2).2
  obtain ⟨u34_1, u34_1w⟩ : ∃ v : Int32, v = h.2.1 34 1 := ⟨_, rfl⟩
  have u34_1e : (h.2.1 34 1).toInt = u34_1.toInt := by rw [u34_1w]
  have u34_1l : 0 ≤ u34_1.toInt := by rw [u34_1w]; exact (hv.2.1 34 1).1
  have u34_1u : u34_1.toInt ≤ 500 := by rw [u34_1w]; exact (hv.2.1 34 1).2
  obtain ⟨u34_7, u34_7w⟩ : ∃ v : Int32, v = h.2.1 34 7 := ⟨_, rfl⟩
  have u34_7e : (h.2.1 34 7).toInt = u34_7.toInt := by rw [u34_7w]
  have u34_7l : 0 ≤ u34_7.toInt := by rw [u34_7w]; exact (hv.2.1 34 7).1
  have u34_7u : u34_7.toInt ≤ 7 := by rw [u34_7w]; exact (hv.2.1 34 7).2
  have k1 := k0
  have k2 := k1
  have k3 := k2
  refine go_aload_n (pc := 0) rfl dX0_clear_0 ?_
  refine go_iconst (pc := 1) (v := 0) (by decide) dX0_clear_1 ?_
  refine gi_put (pc := 2) (lo := 0) (hi := 40) hv (ti_c (v := 0) (a := 0) (by decide)) (fP_X0_9 _) (by rcases hc1 with rfl | rfl <;> rfl) (Nat.le_of_ble_eq_true rfl) rfl (by rcases hc1 with rfl | rfl <;> rfl) (by omega) (by omega) rfl rfl (by rcases hc1 with rfl | rfl <;> decide) (by rcases hc1 with rfl | rfl <;> decide) (by rcases hc1 with rfl | rfl <;> decide) (by rcases hc1 with rfl | rfl <;> decide) dX0_clear_2 (fun h4 hv4 hv4e => ?_)
  have fx4 : FX KC0 h h4 := FX.pI fx hv4e (by unfold KC0; omega)
  have k5 := bd_e k3 (st_I hv4e (ti_c (v := 0) (a := 0) (by decide)))
  refine go_aload_n (pc := 5) rfl dX0_clear_5 ?_
  refine go_iconst (pc := 6) (v := 0) (by decide) dX0_clear_6 ?_
  refine gi_put (pc := 7) (lo := 0) (hi := 5) hv4 (ti_c (v := 0) (a := 0) (by decide)) (fP_X0_15 _) (by rcases hc1 with rfl | rfl <;> rfl) (Nat.le_of_ble_eq_true rfl) rfl (by rcases hc1 with rfl | rfl <;> rfl) (by omega) (by omega) rfl rfl (by rcases hc1 with rfl | rfl <;> decide) (by rcases hc1 with rfl | rfl <;> decide) (by rcases hc1 with rfl | rfl <;> decide) (by rcases hc1 with rfl | rfl <;> decide) dX0_clear_7 (fun h6 hv6 hv6e => ?_)
  have fx6 : FX KC0 h h6 := FX.pI fx4 hv6e (by unfold KC0; omega)
  have k7 := bd_e k5 (st_I hv6e (ti_c (v := 0) (a := 0) (by decide)))
  refine go_aload_n (pc := 10) rfl dX0_clear_10 ?_
  refine go_lconst (pc := 11) (v := 0) (by decide) dX0_clear_11 ?_
  refine gi_putL (pc := 12) hv6 (fP_X0_18 _) (by rcases hc1 with rfl | rfl <;> rfl) (Nat.le_of_ble_eq_true rfl) rfl rfl rfl dX0_clear_12 (fun h8 hv8 hv8e => ?_)
  have fx8 : FX KC0 h h8 := FX.pL fx6 hv8e (by unfold KC0; omega)
  have k9 := bd_e k7 (st_L hv8e)
  refine go_aload_n (pc := 15) rfl dX0_clear_15 ?_
  refine go_iconst (pc := 16) (v := 0) (by decide) dX0_clear_16 ?_
  refine gi_put (pc := 17) (lo := -2147483648) (hi := 2147483647) hv8 (ti_c (v := 0) (a := 0) (by decide)) (fP_X0_22 _) (by rcases hc1 with rfl | rfl <;> rfl) (Nat.le_of_ble_eq_true rfl) rfl (by rcases hc1 with rfl | rfl <;> rfl) (ti_ge (ti_c (v := 0) (a := 0) (by decide))) (ti_le2 (ti_c (v := 0) (a := 0) (by decide))) rfl rfl (by rcases hc1 with rfl | rfl <;> decide) (by rcases hc1 with rfl | rfl <;> decide) (by rcases hc1 with rfl | rfl <;> decide) (by rcases hc1 with rfl | rfl <;> decide) dX0_clear_17 (fun h10 hv10 hv10e => ?_)
  have fx10 : FX KC0 h h10 := FX.pI fx8 hv10e (by unfold KC0; omega)
  have k11 := bd_e k9 (st_I hv10e (ti_c (v := 0) (a := 0) (by decide)))
  refine go_aload_n (pc := 20) rfl dX0_clear_20 ?_
  refine go_iconst (pc := 21) (v := 0) (by decide) dX0_clear_21 ?_
  refine gi_put (pc := 22) (lo := -2147483648) (hi := 2147483647) hv10 (ti_c (v := 0) (a := 0) (by decide)) (fP_X0_25 _) (by rcases hc1 with rfl | rfl <;> rfl) (Nat.le_of_ble_eq_true rfl) rfl (by rcases hc1 with rfl | rfl <;> rfl) (ti_ge (ti_c (v := 0) (a := 0) (by decide))) (ti_le2 (ti_c (v := 0) (a := 0) (by decide))) rfl rfl (by rcases hc1 with rfl | rfl <;> decide) (by rcases hc1 with rfl | rfl <;> decide) (by rcases hc1 with rfl | rfl <;> decide) (by rcases hc1 with rfl | rfl <;> decide) dX0_clear_22 (fun h12 hv12 hv12e => ?_)
  have fx12 : FX KC0 h h12 := FX.pI fx10 hv12e (by unfold KC0; omega)
  have k13 := bd_e k11 (st_I hv12e (ti_c (v := 0) (a := 0) (by decide)))
  have g14 : (0 : Int) ≤ (h12.2.1 34 1).toInt := (hv12.2.1 34 1).1
  have g15 : (h12.2.1 34 1).toInt ≤ 500 := (hv12.2.1 34 1).2
  have g16 : (0 : Int) ≤ (h12.2.1 34 2).toInt := (hv12.2.1 34 2).1
  have g17 : (h12.2.1 34 2).toInt ≤ 500 := (hv12.2.1 34 2).2
  have g18 : (0 : Int) ≤ (h12.2.1 34 7).toInt := (hv12.2.1 34 7).1
  have g19 : (h12.2.1 34 7).toInt ≤ 7 := (hv12.2.1 34 7).2
  have g20 : (h12.2.1 34 2).toInt = u34_2.toInt := by rw [← (show u34_2 = h12.2.1 34 2 from (show u34_2 = h12.2.1 34 2 from by rw [hv12e]; exact (g_iIc (by omega) (by decide) (show u34_2 = h10.2.1 34 2 from by rw [hv10e]; exact (g_iIc (by omega) (by decide) (show u34_2 = h8.2.1 34 2 from by rw [hv8e]; exact (show u34_2 = h6.2.1 34 2 from by rw [hv6e]; exact (g_iIc (by omega) (by decide) (show u34_2 = h4.2.1 34 2 from by rw [hv4e]; exact (g_iIc (by omega) (by decide) u34_2w.symm).symm).symm).symm)).symm).symm).symm).symm))] <;> exact (ti_rfl u34_2)
  have g21 : (h12.2.1 34 1).toInt = u34_1.toInt := by rw [← (show u34_1 = h12.2.1 34 1 from (show u34_1 = h12.2.1 34 1 from by rw [hv12e]; exact (g_iIc (by omega) (by decide) (show u34_1 = h10.2.1 34 1 from by rw [hv10e]; exact (g_iIc (by omega) (by decide) (show u34_1 = h8.2.1 34 1 from by rw [hv8e]; exact (show u34_1 = h6.2.1 34 1 from by rw [hv6e]; exact (g_iIc (by omega) (by decide) (show u34_1 = h4.2.1 34 1 from by rw [hv4e]; exact (g_iIc (by omega) (by decide) u34_1w.symm).symm).symm).symm)).symm).symm).symm).symm))] <;> exact (ti_rfl u34_1)
  have g22 : (h12.2.1 34 7).toInt = u34_7.toInt := by rw [← (show u34_7 = h12.2.1 34 7 from (show u34_7 = h12.2.1 34 7 from by rw [hv12e]; exact (g_iIc (by omega) (by decide) (show u34_7 = h10.2.1 34 7 from by rw [hv10e]; exact (g_iIc (by omega) (by decide) (show u34_7 = h8.2.1 34 7 from by rw [hv8e]; exact (show u34_7 = h6.2.1 34 7 from by rw [hv6e]; exact (g_iIc (by omega) (by decide) (show u34_7 = h4.2.1 34 7 from by rw [hv4e]; exact (g_iIc (by omega) (by decide) u34_7w.symm).symm).symm).symm)).symm).symm).symm).symm))] <;> exact (ti_rfl u34_7)
  exact gi_vret (pc := 25) ⟨rfl, hv12, (by omega), (by omega), (by omega), (k13.symm.trans kf), fx12⟩ hv12 dX0_clear_25
def f_X3_start (s : ST) (a3 : Int) (c4 : Nat) : ST :=
  bd (sR s 34 0 1) fun s1 => bd (min a3 500) fun v3 => bd (sI s1 34 1 v3) fun s7 => bd (sI s7 34 2 0) fun s9 => bd (sI s9 34 3 0) fun s11 => bd (sR s11 34 4 c4) fun s13 => bd (s13.2.2 34 4) fun c15 => bd (f_X0_clear s13 c15) fun s17 => bd (sI s17 36 0 0) fun s24 => bd (sI s24 34 7 0) fun s26 => s26
set_option maxHeartbeats 4000000 in
set_option maxRecDepth 100000 in
theorem s_X3_start_f (l : Launch) (d : Nat) {P : PP} {h : HP} (hv : Iv P h) (a3 : Int32) (a3l : 0 ≤ a3.toInt) (a3u : a3.toInt ≤ 500) (c4 : Nat) (hc4 : c4 = 2 ∨ c4 = 18) : Mt l yX3_start cX3_start 4 none (d + 2) [.ref 34, .ref 1, .int a3, .ref c4] h 0 0 (fun r h' => r = none ∧ Iv P h' ∧ (st h' = f_X3_start (st h) a3.toInt c4) ∧ (FX KC0 h h')) := by
  refine Mt_iv hv (by decide) (Nat.le_of_ble_eq_true rfl) ?_
  show Go l RX3 cX3_start 4 (g_rm (d + 2) 0 0) "start" none 117 0 0 (fun _ _ => True) (fun r h' => r = none ∧ Iv P h' ∧ (st h' = f_X3_start (st h) a3.toInt c4) ∧ (FX KC0 h h')) 0 0 [(0, .ref 34), (1, .ref 1), (2, .int a3), (3, .ref c4)] [] h
  have fx : FX KC0 h h := FX.rfl
  obtain ⟨fin, kf⟩ : ∃ z, z = f_X3_start (st h) a3.toInt c4 := ⟨_, _root_.rfl⟩
  have k0 := kf
  unfold f_X3_start at k0
  refine go_aload_n (pc := 0) rfl dX3_start_0 ?_
  refine go_aload_n (pc := 1) rfl dX3_start_1 ?_
  refine gi_putT (pc := 2) hv (fP_X3_9 _) dX3_start_2 (fun h1 hv1 hv1e => ?_)
  have fx1 : FX KC0 h h1 := FX.pR fx hv1e (by unfold KC0; omega)
  have k2 := bd_e k0 (st_R hv1e)
  refine go_aload_n (pc := 5) rfl dX3_start_5 ?_
  refine go_iload_n (pc := 6) rfl dX3_start_6 ?_
  refine go_aload_n (pc := 7) rfl dX3_start_7 ?_
  refine go_alen (pc := 8) (v := 500) (hv1.sh rfl) (by decide) (by decide) dX3_start_8 ?_
  refine gf_min (pc := 9) (ti_rfl a3) (ti_c (v := 500) (a := 500) (by decide)) mm_L (show 1 ≤ d + 2 by omega) (show 21 ≤ 40 * (d + 2) by omega) (Nat.le_of_ble_eq_true rfl) (g_c0 hv1.ln) (Nat.le_of_ble_eq_true rfl) dX3_start_9 (fun v3 f4 f5 => ?_)
  have v3m : min a3.toInt 500 = v3.toInt := by omega
  have k6 := bd_e k2 v3m
  refine gi_putN (pc := 12) hv1 (ti_rfl v3) (fP_X3_15 _) (by omega) (by omega) (by rw [hv1e]; rfl) dX3_start_12 (fun h7 hv7 hv7e => ?_)
  have fx7 : FX KC0 h h7 := FX.pI fx1 hv7e (by unfold KC0; omega)
  have k8 := bd_e k6 (st_I hv7e (ti_rfl v3))
  refine go_aload_n (pc := 15) rfl dX3_start_15 ?_
  refine go_iconst (pc := 16) (v := 0) (by decide) dX3_start_16 ?_
  refine gi_put (pc := 17) (lo := 0) (hi := 500) hv7 (ti_c (v := 0) (a := 0) (by decide)) (fP_X3_19 _) rfl (Nat.le_of_ble_eq_true rfl) rfl rfl (by omega) (by omega) rfl rfl (by decide) (by decide) (by decide) (by decide) dX3_start_17 (fun h9 hv9 hv9e => ?_)
  have fx9 : FX KC0 h h9 := FX.pI fx7 hv9e (by unfold KC0; omega)
  have k10 := bd_e k8 (st_I hv9e (ti_c (v := 0) (a := 0) (by decide)))
  refine go_aload_n (pc := 20) rfl dX3_start_20 ?_
  refine go_iconst (pc := 21) (v := 0) (by decide) dX3_start_21 ?_
  refine gi_put (pc := 22) (lo := -2147483648) (hi := 2147483647) hv9 (ti_c (v := 0) (a := 0) (by decide)) (fP_X3_22 _) rfl (Nat.le_of_ble_eq_true rfl) rfl rfl (ti_ge (ti_c (v := 0) (a := 0) (by decide))) (ti_le2 (ti_c (v := 0) (a := 0) (by decide))) rfl rfl (by decide) (by decide) (by decide) (by decide) dX3_start_22 (fun h11 hv11 hv11e => ?_)
  have fx11 : FX KC0 h h11 := FX.pI fx9 hv11e (by unfold KC0; omega)
  have k12 := bd_e k10 (st_I hv11e (ti_c (v := 0) (a := 0) (by decide)))
  refine go_aload_n (pc := 25) rfl dX3_start_25 ?_
  refine go_aload_n (pc := 26) rfl dX3_start_26 ?_
  refine gi_putC (pc := 27) hv11 hc4 (fP_X3_46 _) rfl (Nat.le_of_ble_eq_true rfl) rfl (fun _ => rfl) (fun _ => rfl) (by decide) (by decide) (by decide) (by decide) dX3_start_27 (fun h13 hv13 hv13e => ?_)
  have fx13 : FX KC0 h h13 := FX.pR fx11 hv13e (by unfold KC0; omega)
  have k14 := bd_e k12 (st_R hv13e)
  refine go_aload_n (pc := 30) rfl dX3_start_30 ?_
  refine gi_getC (pc := 31) hv13 fL_X3_46 rfl (Nat.le_of_ble_eq_true rfl) rfl (by decide) dX3_start_31 (fun c15 hc15 fc15 => ?_)
  have k16 := bd_e k14 (st_c fc15)
  refine go_invV (pc := 34) (sl := 0) (s_X0_clear_f l (d + 0) hv13 c15 hc15) mL_X3_89 iM_X0_clear sM_X0_clear (hv13.sh (by rcases hc15 with rfl | rfl <;> rfl)) rfl rfl rfl (Nat.le_of_ble_eq_true rfl) (show d + 0 + 1 + 1 ≤ d + 2 by omega) (show 8 + (1 + 11) + 40 * (d + 0 + 1) ≤ 40 * (d + 2) by omega) (g_c0 hv13.ln) (Nat.le_of_ble_eq_true rfl) dX3_start_34 ?_
  intro r h17 hq _
  obtain ⟨rfl, hv17, f18, f19, f20, f21, f22⟩ := hq
  have fx17 : FX KC0 h h17 := FX.tr fx13 f22
  have k23 := bd_e k16 f21.symm
  refine go_aload_n (pc := 37) rfl dX3_start_37 ?_
  refine gi_getF (pc := 38) (q := 36) hv17 fL_X3_28 rfl (Nat.le_of_ble_eq_true rfl) rfl (hv17.rf (by decide)) dX3_start_38 ?_
  refine go_iconst (pc := 41) (v := 0) (by decide) dX3_start_41 ?_
  refine gi_put (pc := 42) (lo := 0) (hi := 128) hv17 (ti_c (v := 0) (a := 0) (by decide)) (fP_X3_94 _) rfl (Nat.le_of_ble_eq_true rfl) rfl rfl (by omega) (by omega) rfl rfl (by decide) (by decide) (by decide) (by decide) dX3_start_42 (fun h24 hv24 hv24e => ?_)
  have fx24 : FX KC0 h h24 := FX.pI fx17 hv24e (by unfold KC0; omega)
  have k25 := bd_e k23 (st_I hv24e (ti_c (v := 0) (a := 0) (by decide)))
  refine go_aload_n (pc := 45) rfl dX3_start_45 ?_
  refine go_iconst (pc := 46) (v := 0) (by decide) dX3_start_46 ?_
  refine gi_put (pc := 47) (lo := 0) (hi := 7) hv24 (ti_c (v := 0) (a := 0) (by decide)) (fP_X3_32 _) rfl (Nat.le_of_ble_eq_true rfl) rfl rfl (by omega) (by omega) rfl rfl (by decide) (by decide) (by decide) (by decide) dX3_start_47 (fun h26 hv26 hv26e => ?_)
  have fx26 : FX KC0 h h26 := FX.pI fx24 hv26e (by unfold KC0; omega)
  have k27 := bd_e k25 (st_I hv26e (ti_c (v := 0) (a := 0) (by decide)))
  exact gi_vret (pc := 50) ⟨rfl, hv26, (k27.symm.trans kf), fx26⟩ hv26 dX3_start_50

