
set_option maxHeartbeats 4000000 in
set_option maxRecDepth 100000 in
theorem s_X8_empties_x_f (l : Launch) (d : Nat) {P : PP} {h : HP} (hv : Iv P h)  : Mt l yX8_empties cX8_empties 2 none (d + 1) [.ref 70] h 0 0 (fun r h' => r = none ∧ Iv P h' ∧ (EM h'.2.1) ∧ (KS h.2.1 h'.2.1) ∧ (FX KAr h h')) := by
  refine Mt_iv hv (by decide) (Nat.le_of_ble_eq_true rfl) ?_
  show Go l RX8 cX8_empties 2 (g_rm (d + 1) 0 0) "empties" none 117 0 0 (fun _ _ => True) (fun r h' => r = none ∧ Iv P h' ∧ (EM h'.2.1) ∧ (KS h.2.1 h'.2.1) ∧ (FX KAr h h')) 0 0 [(0, .ref 70)] [] h
  have fx : FX KAr h h := FX.rfl
  have key : ∀ n : Nat, (∀ (l1 : Int32) (hx : HP), Iv P hx → 0 ≤ l1.toInt → l1.toInt ≤ 19 → (KS h.2.1 hx.2.1) → (∀ j : Nat, (j : Int) < l1.toInt → hx.2.1 109 j = 0) → FX KAr h hx → (3 * (19 - l1.toInt) + 2 : Int) < n → Go l RX8 cX8_empties 2 (g_rm (d + 1) 0 0) "empties" none 117 0 0 (fun _ _ => True) (fun r h' => r = none ∧ Iv P h' ∧ (EM h'.2.1) ∧ (KS h.2.1 h'.2.1) ∧ (FX KAr h h')) 0 2 [(0, .ref 70), (1, .int l1)] [] hx) := by
    intro n
    induction n with
    | zero => exact (by intros; omega)
    | succ n ih =>
      refine ?_
      ·
        intro l1 hx hvx l1l l1u x0 x1 fxx hm
        refine go_iload_n (pc := 2) rfl dX8_empties_2 ?_
        refine go_bipush (pc := 3) (v := 19) (by decide) dX8_empties_3 ?_
        refine gf_icmp_ge (pc := 5) (tgt := 21) (ti_rfl l1) (ti_c (v := 19) (a := 19) (by decide)) (by decide) dX8_empties_5 (fun q1 => ?_) (fun q1 => ?_)
        ·
          refine go_aload_n (pc := 21) rfl dX8_empties_21 ?_
          refine go_iconst (pc := 22) (v := 0) (by decide) dX8_empties_22 ?_
          refine gi_put (pc := 23) (lo := 0) (hi := 585) hvx (ti_c (v := 0) (a := 0) (by decide)) (fP_X8_344 _) rfl (Nat.le_of_ble_eq_true rfl) rfl rfl (by omega) (by omega) rfl rfl (by decide) (by decide) (by decide) (by decide) dX8_empties_23 (fun h2 hv2 hv2e => ?_)
          have fx2 : FX KAr h h2 := FX.pI fxx hv2e (by unfold KAr; omega)
          exact gi_vret (pc := 26) ⟨rfl, hv2, (EM.mk (fun j q => by rw [hv2e]; show (if 109 = 70 ∧ j = 47 then 0 else hx.2.1 109 j) = 0; rw [if_neg (by omega)]; exact x1 j (by omega)) (by rw [hv2e]; show (if 70 = 70 ∧ 47 = 47 then (0 : Int32) else hx.2.1 70 47).toInt = 0; rw [if_pos ⟨rfl, rfl⟩]; decide)), (x0.trans (fun c j a b e => by rw [hv2e]; show (if c = 70 ∧ j = 47 then _ else hx.2.1 c j) = _; rw [if_neg e])), fx2⟩ hv2 dX8_empties_26
        ·
          refine go_aload_n (pc := 8) rfl dX8_empties_8 ?_
          refine gi_getF (pc := 9) (q := 109) hvx fL_X8_127 rfl (Nat.le_of_ble_eq_true rfl) rfl (hvx.rf (by decide)) dX8_empties_9 ?_
          refine go_iload_n (pc := 12) rfl dX8_empties_12 ?_
          refine go_iconst (pc := 13) (v := 0) (by decide) dX8_empties_13 ?_
          refine gi_iast (pc := 14) (lo := -2147483648) (hi := 2147483647) (len := 19) hvx (ti_rfl l1) (ti_c (v := 0) (a := 0) (by decide)) rfl (by omega) (by omega) (fun _ => rfl) (ti_ge (ti_c (v := 0) (a := 0) (by decide))) (ti_le2 (ti_c (v := 0) (a := 0) (by decide))) (by decide) dX8_empties_14 (fun h3 hv3 hv3e => ?_)
          have fx3 : FX KAr h h3 := FX.pI fxx hv3e (by unfold KAr; omega)
          refine gf_iinc (pc := 15) (Nat.le_of_ble_eq_true rfl) rfl (ti_rfl l1) (ti_c (by decide)) (by omega) (by omega) dX8_empties_15 (fun v4 e5 => ?_)
          refine go_lv (lv2 := [(0, .ref 70), (1, .int v4)]) rfl ?_
          refine go_goto (pc := 18) (tgt := 2) (by decide) dX8_empties_18 ?_
          have z6 : (v4 : Int32).toInt = (l1.toInt + 1) := e5
          exact go_lv rfl (ih v4 h3 hv3 (by omega) (by omega) (x0.trans (fun c j a b e => by rw [hv3e]; show (if c = 109 ∧ j = _ then _ else hx.2.1 c j) = _; rw [if_neg (by omega)])) (fun j q => by rw [hv3e]; show (if 109 = 109 ∧ j = (l1.toInt).toNat then 0 else hx.2.1 109 j) = 0; by_cases w : j = (l1.toInt).toNat; (rw [if_pos ⟨rfl, w⟩]); (rw [if_neg (by omega)]; exact x1 j (by omega))) fx3 (by omega))
  refine go_iconst (pc := 0) (v := 0) (by decide) dX8_empties_0 ?_
  refine go_istore_n (pc := 1) (Nat.le_of_ble_eq_true rfl) dX8_empties_1 (go_lv (lv2 := [(0, .ref 70), (1, .int 0)]) rfl ?_)
  have z7 : (0 : Int32).toInt = 0 := (ti_c (v := 0) (a := 0) (by decide))
  exact go_lv rfl ((key 76) 0 h hv (by omega) (by omega) (KS.rfl _) (fun j q => absurd q (by omega)) fx (by omega))
set_option maxHeartbeats 4000000 in
set_option maxRecDepth 100000 in
theorem s_X8_goesBack_f (l : Launch) (d : Nat) {P : PP} {h : HP} (hv : Iv P h) (hw : WT h.2.1 ≤ ct h.2.1 109) (ckf : CKF h.2.1) : Mt l yX8_goesBack cX8_goesBack 2 none (d + 5) [.ref 70] h 0 0 (fun r h' => r = none ∧ Iv P h' ∧ (SU 109 h.2.1 h'.2.1) ∧ (KS h.2.1 h'.2.1) ∧ (FX KAr h h')) := by
  refine Mt_iv hv (by decide) (Nat.le_of_ble_eq_true rfl) ?_
  show Go l RX8 cX8_goesBack 2 (g_rm (d + 5) 0 0) "goesBack" none 117 0 0 (fun _ _ => True) (fun r h' => r = none ∧ Iv P h' ∧ (SU 109 h.2.1 h'.2.1) ∧ (KS h.2.1 h'.2.1) ∧ (FX KAr h h')) 0 0 [(0, .ref 70)] [] h
  have fx : FX KAr h h := FX.rfl
  have key : ∀ n : Nat, (∀ (l1 : Int32) (hx : HP), Iv P hx → 0 ≤ l1.toInt → l1.toInt ≤ 585 → (SU 109 h.2.1 hx.2.1) → (KS h.2.1 hx.2.1) → (WT hx.2.1 ≤ (cn hx.2.1 109 l1.toInt.toNat : Int)) → FX KAr h hx → (3 * (585 - l1.toInt) + 2 : Int) < n → Go l RX8 cX8_goesBack 2 (g_rm (d + 5) 0 0) "goesBack" none 117 0 0 (fun _ _ => True) (fun r h' => r = none ∧ Iv P h' ∧ (SU 109 h.2.1 h'.2.1) ∧ (KS h.2.1 h'.2.1) ∧ (FX KAr h h')) 0 8 [(0, .ref 70), (1, .int l1)] [] hx) := by
    intro n
    induction n with
    | zero => exact (by intros; omega)
    | succ n ih =>
      refine ?_
      ·
        intro l1 hx hvx l1l l1u x0 x1 x2 fxx hm
        obtain ⟨u70_47, u70_47w⟩ : ∃ v : Int32, v = hx.2.1 70 47 := ⟨_, rfl⟩
        have u70_47e : (hx.2.1 70 47).toInt = u70_47.toInt := by rw [u70_47w]
        have u70_47l : 0 ≤ u70_47.toInt := by rw [u70_47w]; exact (hvx.2.1 70 47).1
        have u70_47u : u70_47.toInt ≤ 585 := by rw [u70_47w]; exact (hvx.2.1 70 47).2
        have c1 := cn_le hx.2.1 109 l1.toInt.toNat
        have hwt : (hx.2.1 70 47).toInt = WT hx.2.1 := rfl
        refine go_iload_n (pc := 8) rfl dX8_goesBack_8 ?_
        refine go_sipush (pc := 9) (v := 585) (by decide) dX8_goesBack_9 ?_
        refine gf_icmp_ge (pc := 12) (tgt := 52) (ti_rfl l1) (ti_c (v := 585) (a := 585) (by decide)) (by decide) dX8_goesBack_12 (fun q1 => ?_) (fun q1 => ?_)
        ·
          refine go_aload_n (pc := 52) rfl dX8_goesBack_52 ?_
          refine go_iconst (pc := 53) (v := 0) (by decide) dX8_goesBack_53 ?_
          refine go_iconst (pc := 54) (v := 1) (by decide) dX8_goesBack_54 ?_
          refine go_invV (pc := 55) (sl := 0) (s_X8_goes_f l (d + 0) hvx 0 (by rw [show (0 : Int32).toInt = 0 from (ti_c (v := 0) (a := 0) (by decide))]; omega) (by rw [show (0 : Int32).toInt = 0 from (ti_c (v := 0) (a := 0) (by decide))]; omega) 1 (by rw [show (1 : Int32).toInt = 1 from (ti_c (v := 1) (a := 1) (by decide))]; omega) (by rw [show (1 : Int32).toInt = 1 from (ti_c (v := 1) (a := 1) (by decide))]; omega) (by have c := cn_step hx.2.1 109 l1.toInt.toNat 585 (by omega); show WT hx.2.1 ≤ ((cn hx.2.1 109 585 : Nat) : Int); omega) (KS.ckf x1 ckf)) mL_X8_359 iM_X8_goes sM_X8_goes (hvx.sh rfl) rfl rfl rfl (Nat.le_of_ble_eq_true rfl) (show d + 0 + 4 + 1 ≤ d + 5 by omega) (show 8 + (7 + 11) + 40 * (d + 0 + 4) ≤ 40 * (d + 5) by omega) (g_c0 hvx.ln) (Nat.le_of_ble_eq_true rfl) dX8_goesBack_55 ?_
          intro r h2 hq _
          obtain ⟨rfl, hv2, f3, f4, f5⟩ := hq
          try rw [show (0 : Int32).toInt = 0 from (ti_c (v := 0) (a := 0) (by decide))] at f3
          try rw [show (1 : Int32).toInt = 1 from (ti_c (v := 1) (a := 1) (by decide))] at f3
          try rw [show (0 : Int32).toInt = 0 from (ti_c (v := 0) (a := 0) (by decide))] at f4
          try rw [show (1 : Int32).toInt = 1 from (ti_c (v := 1) (a := 1) (by decide))] at f4
          try rw [show (0 : Int32).toInt = 0 from (ti_c (v := 0) (a := 0) (by decide))] at f5
          try rw [show (1 : Int32).toInt = 1 from (ti_c (v := 1) (a := 1) (by decide))] at f5
          have fx2 : FX KAr h h2 := FX.tr fxx f5
          exact gi_vret (pc := 58) ⟨rfl, hv2, (x0.trans f3.2.2.1), (x1.trans f3.2.2.2), fx2⟩ hv2 dX8_goesBack_58
        ·
          refine go_aload_n (pc := 15) rfl dX8_goesBack_15 ?_
          refine go_iload_n (pc := 16) rfl dX8_goesBack_16 ?_
          refine go_invV (pc := 17) (sl := 0) (s_X8_isInSet_x l (d + 3) hvx l1 (by rw [show (l1 : Int32).toInt = l1.toInt from (ti_rfl l1)]; omega) (by rw [show (l1 : Int32).toInt = l1.toInt from (ti_rfl l1)]; omega)) mL_X8_341 iM_X8_isInSet sM_X8_isInSet (hvx.sh rfl) rfl rfl rfl (Nat.le_of_ble_eq_true rfl) (show d + 3 + 1 + 1 ≤ d + 5 by omega) (show 8 + (2 + 11) + 40 * (d + 3 + 1) ≤ 40 * (d + 5) by omega) (g_c0 hvx.ln) (Nat.le_of_ble_eq_true rfl) dX8_goesBack_17 ?_
          intro r h6 hq _
          obtain ⟨v8, rfl, v8l, v8u, rfl, f7⟩ := hq
          refine gf_if_ne (pc := 20) (tgt := 26) (ti_rfl v8) (by decide) dX8_goesBack_20 (fun q9 => ?_) (fun q9 => ?_)
          ·
            refine go_aload_n (pc := 26) rfl dX8_goesBack_26 ?_
            refine gi_getF (pc := 27) (q := 110) hvx fL_X8_130 rfl (Nat.le_of_ble_eq_true rfl) rfl (hvx.rf (by decide)) dX8_goesBack_27 ?_
            refine go_aload_n (pc := 30) rfl dX8_goesBack_30 ?_
            refine gi_get (pc := 31) (lo := 0) (hi := 585) hvx fL_X8_344 rfl (Nat.le_of_ble_eq_true rfl) rfl rfl dX8_goesBack_31 (fun v10 v10l v10u v10w => ?_)
            have v10r : u70_47 = hx.2.1 70 47 := u70_47w
            have v10q : TI v10 u70_47.toInt := by rw [v10w.trans v10r.symm]; exact (ti_rfl u70_47)
            refine go_iload_n (pc := 34) rfl dX8_goesBack_34 ?_
            refine gi_iast (pc := 35) (lo := 0) (hi := 584) (len := 585) hvx v10q (ti_rfl l1) rfl (by omega) (by omega) (fun _ => rfl) (by omega) (by omega) (by decide) dX8_goesBack_35 (fun h11 hv11 hv11e => ?_)
            have fx11 : FX KAr h h11 := FX.pI fxx hv11e (by unfold KAr; omega)
            refine go_aload_n (pc := 36) rfl dX8_goesBack_36 ?_
            refine go_dup (pc := 37) rfl dX8_goesBack_37 ?_
            refine gi_get (pc := 38) (lo := 0) (hi := 585) hv11 fL_X8_344 rfl (Nat.le_of_ble_eq_true rfl) rfl rfl dX8_goesBack_38 (fun v12 v12l v12u v12w => ?_)
            have v12r : u70_47 = h11.2.1 70 47 := (show u70_47 = h11.2.1 70 47 from by rw [hv11e]; exact (g_iI rfl u70_47w.symm).symm)
            have v12q : TI v12 u70_47.toInt := by rw [v12w.trans v12r.symm]; exact (ti_rfl u70_47)
            refine go_iconst (pc := 41) (v := 1) (by decide) dX8_goesBack_41 ?_
            refine gf_iadd (pc := 42) v12q (ti_c (v := 1) (a := 1) (by decide)) (by omega) (by omega) dX8_goesBack_42 (fun v13 e14 => ?_)
            refine gi_put (pc := 43) (lo := 0) (hi := 585) hv11 e14 (fP_X8_344 _) rfl (Nat.le_of_ble_eq_true rfl) rfl rfl (by omega) (by omega) rfl rfl (by decide) (by decide) (by decide) (by decide) dX8_goesBack_43 (fun h15 hv15 hv15e => ?_)
            have fx15 : FX KAr h h15 := FX.pI fx11 hv15e (by unfold KAr; omega)
            obtain ⟨p1, p2, p3⟩ := push_step (F := hx.2.1) (x := l1.toInt) (v := l1) (z := v13) (by omega) (by omega) rfl (f7.1 (by omega)) x2 (by omega) (by rw [show (v13 : Int32).toInt = (u70_47.toInt + 1) from e14]; omega)
            have eh : h15.2.1 = (fun p q => if p = 70 ∧ q = 47 then v13 else if p = 110 ∧ q = (WT hx.2.1).toNat then l1 else hx.2.1 p q) := by (rw [hv15e, hv11e, show (WT hx.2.1).toNat = (u70_47.toInt).toNat from by rw [← u70_47e]; rfl]; rfl)
            rw [← eh] at p1 p2 p3
            refine gf_iinc (pc := 46) (Nat.le_of_ble_eq_true rfl) rfl (ti_rfl l1) (ti_c (by decide)) (by omega) (by omega) dX8_goesBack_46 (fun v16 e17 => ?_)
            refine go_lv (lv2 := [(0, .ref 70), (1, .int v16)]) rfl ?_
            refine go_goto (pc := 49) (tgt := 8) (by decide) dX8_goesBack_49 ?_
            have z18 : (v16 : Int32).toInt = (l1.toInt + 1) := e17
            exact go_lv rfl (ih v16 h15 hv15 (by omega) (by omega) (x0.trans p1) (x1.trans p2) (by rw [show (v16 : Int32).toInt = l1.toInt + 1 from e17]; exact p3) fx15 (by omega))
          ·
            refine go_goto (pc := 23) (tgt := 46) (by decide) dX8_goesBack_23 ?_
            refine gf_iinc (pc := 46) (Nat.le_of_ble_eq_true rfl) rfl (ti_rfl l1) (ti_c (by decide)) (by omega) (by omega) dX8_goesBack_46 (fun v19 e20 => ?_)
            refine go_lv (lv2 := [(0, .ref 70), (1, .int v19)]) rfl ?_
            refine go_goto (pc := 49) (tgt := 8) (by decide) dX8_goesBack_49 ?_
            have z21 : (v19 : Int32).toInt = (l1.toInt + 1) := e20
            exact go_lv rfl (ih v19 hx hvx (by omega) (by omega) x0 x1 (by rw [show (v19 : Int32).toInt = l1.toInt + 1 from e20]; have z := cn_step hx.2.1 109 l1.toInt.toNat (l1.toInt + 1).toNat (by omega); omega) fxx (by omega))
  refine go_aload_n (pc := 0) rfl dX8_goesBack_0 ?_
  refine go_iconst (pc := 1) (v := 1) (by decide) dX8_goesBack_1 ?_
  refine go_iconst (pc := 2) (v := 0) (by decide) dX8_goesBack_2 ?_
  refine go_invV (pc := 3) (sl := 0) (s_X8_goes_f l (d + 0) hv 1 (by rw [show (1 : Int32).toInt = 1 from (ti_c (v := 1) (a := 1) (by decide))]; omega) (by rw [show (1 : Int32).toInt = 1 from (ti_c (v := 1) (a := 1) (by decide))]; omega) 0 (by rw [show (0 : Int32).toInt = 0 from (ti_c (v := 0) (a := 0) (by decide))]; omega) (by rw [show (0 : Int32).toInt = 0 from (ti_c (v := 0) (a := 0) (by decide))]; omega) hw ckf) mL_X8_359 iM_X8_goes sM_X8_goes (hv.sh rfl) rfl rfl rfl (Nat.le_of_ble_eq_true rfl) (show d + 0 + 4 + 1 ≤ d + 5 by omega) (show 8 + (7 + 11) + 40 * (d + 0 + 4) ≤ 40 * (d + 5) by omega) (g_c0 hv.ln) (Nat.le_of_ble_eq_true rfl) dX8_goesBack_3 ?_
  intro r h22 hq _
  obtain ⟨rfl, hv22, f23, f24, f25⟩ := hq
  try rw [show (1 : Int32).toInt = 1 from (ti_c (v := 1) (a := 1) (by decide))] at f23
  try rw [show (0 : Int32).toInt = 0 from (ti_c (v := 0) (a := 0) (by decide))] at f23
  try rw [show (1 : Int32).toInt = 1 from (ti_c (v := 1) (a := 1) (by decide))] at f24
  try rw [show (0 : Int32).toInt = 0 from (ti_c (v := 0) (a := 0) (by decide))] at f24
  try rw [show (1 : Int32).toInt = 1 from (ti_c (v := 1) (a := 1) (by decide))] at f25
  try rw [show (0 : Int32).toInt = 0 from (ti_c (v := 0) (a := 0) (by decide))] at f25
  have fx22 : FX KAr h h22 := FX.tr fx f25
  refine go_iconst (pc := 6) (v := 0) (by decide) dX8_goesBack_6 ?_
  refine go_istore_n (pc := 7) (Nat.le_of_ble_eq_true rfl) dX8_goesBack_7 (go_lv (lv2 := [(0, .ref 70), (1, .int 0)]) rfl ?_)
  have z26 : (0 : Int32).toInt = 0 := (ti_c (v := 0) (a := 0) (by decide))
  exact go_lv rfl ((key 1774) 0 h22 hv22 (by omega) (by omega) f23.2.2.1 f23.2.2.2 (by have z := f24; omega) fx22 (by omega))
set_option maxHeartbeats 4000000 in
set_option maxRecDepth 100000 in
theorem s_X8_laysThrough_f (l : Launch) (d : Nat) {P : PP} {h : HP} (hv : Iv P h) (ckf : CKF h.2.1) : Mt l yX8_laysThrough cX8_laysThrough 5 none (d + 5) [.ref 70] h 0 0 (fun r h' => r = none ∧ Iv P h' ∧ (KT h.2.1 h'.2.1) ∧ (FX KAr h h')) := by
  refine Mt_iv hv (by decide) (Nat.le_of_ble_eq_true rfl) ?_
  show Go l RX8 cX8_laysThrough 5 (g_rm (d + 5) 0 0) "laysThrough" none 117 0 0 (fun _ _ => True) (fun r h' => r = none ∧ Iv P h' ∧ (KT h.2.1 h'.2.1) ∧ (FX KAr h h')) 0 0 [(0, .ref 70)] [] h
  obtain ⟨S, hS⟩ : ∃ S : Int, S = (h.2.1 70 6).toInt := ⟨_, rfl⟩
  have S0 : 0 ≤ S := by rw [hS]; exact (hv.2.1 70 6).1
  have S1 : S ≤ 1 := by rw [hS]; exact (hv.2.1 70 6).2
  have fx : FX KAr h h := FX.rfl
  have key : ∀ n : Nat, (∀ (l1 : Int32) (hx : HP), Iv P hx → 0 ≤ l1.toInt → l1.toInt ≤ 30 → (KT h.2.1 hx.2.1) → (∀ j : Nat, (j : Int) < l1.toInt → hx.2.1 108 j = 0) → FX KAr h hx → (1000000 + (30 - l1.toInt) : Int) < n → Go l RX8 cX8_laysThrough 5 (g_rm (d + 5) 0 0) "laysThrough" none 117 0 0 (fun _ _ => True) (fun r h' => r = none ∧ Iv P h' ∧ (KT h.2.1 h'.2.1) ∧ (FX KAr h h')) 0 2 [(0, .ref 70), (1, .int l1)] [] hx) ∧ (∀ (l1 : Int32) (hx : HP), Iv P hx → 0 ≤ l1.toInt → l1.toInt ≤ 1 → (KT h.2.1 hx.2.1) → (TI1 hx.2.1 S ∧ TN hx.2.1) → (0 ≤ tc hx.2.1 ∧ tc hx.2.1 ≤ 180) → FX KAr h hx → (1000 * (180 - tc hx.2.1) + 1000 * l1.toInt + 500 : Int) < n → Go l RX8 cX8_laysThrough 5 (g_rm (d + 5) 0 0) "laysThrough" none 117 0 0 (fun _ _ => True) (fun r h' => r = none ∧ Iv P h' ∧ (KT h.2.1 h'.2.1) ∧ (FX KAr h h')) 0 23 [(0, .ref 70), (1, .int l1)] [] hx) ∧ (∀ (l1 : Int32) (l2 : Int32) (hx : HP), Iv P hx → 0 ≤ l1.toInt → l1.toInt ≤ 1 → 0 ≤ l2.toInt → l2.toInt ≤ 30 → (KT h.2.1 hx.2.1) → (TI1 hx.2.1 S ∧ TN hx.2.1) → (0 ≤ tc hx.2.1 ∧ tc hx.2.1 ≤ 180) → FX KAr h hx → (1000 * (180 - tc hx.2.1) + 1000 * l1.toInt + 600 + 10 * (30 - l2.toInt) : Int) < n → Go l RX8 cX8_laysThrough 5 (g_rm (d + 5) 0 0) "laysThrough" none 117 0 0 (fun _ _ => True) (fun r h' => r = none ∧ Iv P h' ∧ (KT h.2.1 h'.2.1) ∧ (FX KAr h h')) 0 31 [(0, .ref 70), (1, .int l1), (2, .int l2)] [] hx) ∧ (∀ (l1 : Int32) (l2 : Int32) (l3 : Int32) (l4 : Int32) (hx : HP), Iv P hx → 0 ≤ l1.toInt → l1.toInt ≤ 1 → 0 ≤ l2.toInt → l2.toInt ≤ 29 → 0 ≤ l4.toInt → l4.toInt ≤ 6 → (KT h.2.1 hx.2.1) → (TI1 hx.2.1 S ∧ TN hx.2.1) → (0 ≤ tc hx.2.1 ∧ tc hx.2.1 ≤ 180) → (TS hx.2.1 S l2.toInt) → (BI hx.2.1 l2.toInt l4.toInt l3) → FX KAr h hx → (1000 * (180 - tc hx.2.1) + 1000 * l1.toInt + 600 + 10 * (30 - l2.toInt) - 9 + (6 - l4.toInt) : Int) < n → Go l RX8 cX8_laysThrough 5 (g_rm (d + 5) 0 0) "laysThrough" none 117 0 0 (fun _ _ => True) (fun r h' => r = none ∧ Iv P h' ∧ (KT h.2.1 h'.2.1) ∧ (FX KAr h h')) 0 80 [(0, .ref 70), (1, .int l1), (2, .int l2), (3, .int l3), (4, .int l4)] [] hx) := by
    intro n
    induction n with
    | zero => exact ⟨(by intros; omega), (by intros; omega), (by intros; omega), (by intros; omega)⟩
    | succ n ih =>
      refine ⟨?_, ?_, ?_, ?_⟩
      ·
        intro l1 hx hvx l1l l1u x0 x1 fxx hm
        have tcz := tc_lo hx.2.1
        refine go_iload_n (pc := 2) rfl dX8_laysThrough_2 ?_
        refine go_bipush (pc := 3) (v := 30) (by decide) dX8_laysThrough_3 ?_
        refine gf_icmp_ge (pc := 5) (tgt := 21) (ti_rfl l1) (ti_c (v := 30) (a := 30) (by decide)) (by decide) dX8_laysThrough_5 (fun q1 => ?_) (fun q1 => ?_)
        ·
          refine go_iconst (pc := 21) (v := 1) (by decide) dX8_laysThrough_21 ?_
          refine go_istore_n (pc := 22) (Nat.le_of_ble_eq_true rfl) dX8_laysThrough_22 (go_lv (lv2 := [(0, .ref 70), (1, .int 1)]) rfl ?_)
          have z2 : (1 : Int32).toInt = 1 := (ti_c (v := 1) (a := 1) (by decide))
          exact go_lv rfl (ih.2.1 1 hx hvx (by omega) (by omega) x0 (TI1.zero (fun j q => x1 j (by omega))) ⟨tc_lo _, tc_hi _⟩ fxx (by omega))
        ·
          refine go_aload_n (pc := 8) rfl dX8_laysThrough_8 ?_
          refine gi_getF (pc := 9) (q := 108) hvx fL_X8_124 rfl (Nat.le_of_ble_eq_true rfl) rfl (hvx.rf (by decide)) dX8_laysThrough_9 ?_
          refine go_iload_n (pc := 12) rfl dX8_laysThrough_12 ?_
          refine go_iconst (pc := 13) (v := 0) (by decide) dX8_laysThrough_13 ?_
          refine gi_iast (pc := 14) (lo := -2147483648) (hi := 2147483647) (len := 30) hvx (ti_rfl l1) (ti_c (v := 0) (a := 0) (by decide)) rfl (by omega) (by omega) (fun _ => rfl) (ti_ge (ti_c (v := 0) (a := 0) (by decide))) (ti_le2 (ti_c (v := 0) (a := 0) (by decide))) (by decide) dX8_laysThrough_14 (fun h3 hv3 hv3e => ?_)
          have fx3 : FX KAr h h3 := FX.pI fxx hv3e (by unfold KAr; omega)
          refine gf_iinc (pc := 15) (Nat.le_of_ble_eq_true rfl) rfl (ti_rfl l1) (ti_c (by decide)) (by omega) (by omega) dX8_laysThrough_15 (fun v4 e5 => ?_)
          refine go_lv (lv2 := [(0, .ref 70), (1, .int v4)]) rfl ?_
          refine go_goto (pc := 18) (tgt := 2) (by decide) dX8_laysThrough_18 ?_
          have z6 : (v4 : Int32).toInt = (l1.toInt + 1) := e5
          exact go_lv rfl (ih.1 v4 h3 hv3 (by omega) (by omega) (x0.trans (fun c j a b d e => by rw [hv3e]; show (if c = 108 ∧ j = _ then _ else hx.2.1 c j) = _; rw [if_neg (by omega)])) (fun j q => by rw [hv3e]; show (if 108 = 108 ∧ j = (l1.toInt).toNat then 0 else hx.2.1 108 j) = 0; by_cases w : j = (l1.toInt).toNat; (rw [if_pos ⟨rfl, w⟩]); (rw [if_neg (by omega)]; exact x1 j (by omega))) fx3 (by omega))
      ·
        intro l1 hx hvx l1l l1u x0 x1 x2 fxx hm
        refine go_iload_n (pc := 23) rfl dX8_laysThrough_23 ?_
        refine gf_if_eq (pc := 24) (tgt := 158) (ti_rfl l1) (by decide) dX8_laysThrough_24 (fun q7 => ?_) (fun q7 => ?_)
        ·
          exact gi_vret (pc := 158) ⟨rfl, hvx, x0, fxx⟩ hvx dX8_laysThrough_158
        ·
          refine go_iconst (pc := 27) (v := 0) (by decide) dX8_laysThrough_27 ?_
          refine go_istore_n (pc := 28) (Nat.le_of_ble_eq_true rfl) dX8_laysThrough_28 (go_lv (lv2 := [(0, .ref 70), (1, .int 0)]) rfl ?_)
          refine go_iconst (pc := 29) (v := 0) (by decide) dX8_laysThrough_29 ?_
          refine go_istore_n (pc := 30) (Nat.le_of_ble_eq_true rfl) dX8_laysThrough_30 (go_lv (lv2 := [(0, .ref 70), (1, .int 0), (2, .int 0)]) rfl ?_)
          have z8 : (0 : Int32).toInt = 0 := (ti_c (v := 0) (a := 0) (by decide))
          have z9 : (0 : Int32).toInt = 0 := (ti_c (v := 0) (a := 0) (by decide))
          exact go_lv rfl (ih.2.2.1 0 0 hx hvx (by omega) (by omega) (by omega) (by omega) x0 x1 ⟨tc_lo _, tc_hi _⟩ fxx (by omega))
      ·
        intro l1 l2 hx hvx l1l l1u l2l l2u x0 x1 x2 fxx hm
        refine go_iload_n (pc := 31) rfl dX8_laysThrough_31 ?_
        refine go_bipush (pc := 32) (v := 6) (by decide) dX8_laysThrough_32 ?_
        refine go_aload_n (pc := 34) rfl dX8_laysThrough_34 ?_
        refine gi_getF (pc := 35) (q := 76) hvx fL_X8_26 rfl (Nat.le_of_ble_eq_true rfl) rfl (hvx.rf (by decide)) dX8_laysThrough_35 ?_
        refine go_aload_n (pc := 38) rfl dX8_laysThrough_38 ?_
        refine gi_get (pc := 39) (lo := 0) (hi := 1) hvx fL_X8_187 rfl (Nat.le_of_ble_eq_true rfl) rfl rfl dX8_laysThrough_39 (fun v10 v10l v10u v10w => ?_)
        have v10S : v10.toInt = S := by rw [v10w, hvx.fy (j := 6) (by omega), ← hv.fy (j := 6) (by omega)]; exact hS.symm
        refine gi_iald (pc := 42) (lo := 0) (hi := 5) (len := 2) hvx (ti_rfl v10) rfl (by omega) (by omega) (fun _ => rfl) dX8_laysThrough_42 (fun v11 v11l v11u v11w => ?_)
        have v11V : v11.toInt = V h.2.1 76 S := by rw [v11w, v10S, hvx.fz (c := 76) (by omega) (by omega), ← hv.fz (c := 76) (by omega) (by omega)]; rfl
        refine gf_imul (pc := 43) (ti_c (v := 6) (a := 6) (by decide)) (ti_rfl v11) (by omega) (by omega) dX8_laysThrough_43 (fun v12 e13 => ?_)
        refine gf_icmp_ge (pc := 44) (tgt := 155) (ti_rfl l2) e13 (by decide) dX8_laysThrough_44 (fun q14 => ?_) (fun q14 => ?_)
        ·
          refine go_goto (pc := 155) (tgt := 23) (by decide) dX8_laysThrough_155 ?_
          exact go_lv rfl (ih.2.1 l1 hx hvx (by omega) (by omega) x0 x1 ⟨tc_lo _, tc_hi _⟩ fxx (by omega))
        ·
          refine go_aload_n (pc := 47) rfl dX8_laysThrough_47 ?_
          refine go_invV (pc := 48) (sl := 0) (s_X8_empties_x_f l (d + 3) hvx ) mL_X8_356 iM_X8_empties sM_X8_empties (hvx.sh rfl) rfl rfl rfl (Nat.le_of_ble_eq_true rfl) (show d + 3 + 1 + 1 ≤ d + 5 by omega) (show 8 + (2 + 11) + 40 * (d + 3 + 1) ≤ 40 * (d + 5) by omega) (g_c0 hvx.ln) (Nat.le_of_ble_eq_true rfl) dX8_laysThrough_48 ?_
          intro r h15 hq _
          obtain ⟨rfl, hv15, f16, f17, f18⟩ := hq
          have fx15 : FX KAr h h15 := FX.tr fxx f18
          refine go_aload_n (pc := 51) rfl dX8_laysThrough_51 ?_
          refine go_iload_n (pc := 52) rfl dX8_laysThrough_52 ?_
          refine go_bipush (pc := 53) (v := 6) (by decide) dX8_laysThrough_53 ?_
          refine gf_idiv (pc := 55) (ti_rfl l2) (ti_c (v := 6) (a := 6) (by decide)) (by omega) (by omega) dX8_laysThrough_55 (fun v19 e20 => ?_)
          refine go_bipush (pc := 56) (v := 7) (by decide) dX8_laysThrough_56 ?_
          refine go_iload_n (pc := 58) rfl dX8_laysThrough_58 ?_
          refine go_bipush (pc := 59) (v := 6) (by decide) dX8_laysThrough_59 ?_
          refine gf_irem (pc := 61) (ti_rfl l2) (ti_c (v := 6) (a := 6) (by decide)) (by omega) (by omega) dX8_laysThrough_61 (fun v21 e22 => ?_)
          refine gf_iadd (pc := 62) (ti_c (v := 7) (a := 7) (by decide)) e22 (by omega) (by omega) dX8_laysThrough_62 (fun v23 e24 => ?_)
          refine go_invS (pc := 63) (sl := 0) (s_X8_procedurePlace_x l (d + 3) hv15 v19 (by rw [show (v19 : Int32).toInt = (l2.toInt / 6) from e20]; omega) (by rw [show (v19 : Int32).toInt = (l2.toInt / 6) from e20]; omega) v23 (by rw [show (v23 : Int32).toInt = (7 + (l2.toInt % 6)) from e24]; omega) (by rw [show (v23 : Int32).toInt = (7 + (l2.toInt % 6)) from e24]; omega)) mL_X8_300 iM_X8_procedurePlace rfl rfl (Nat.le_of_ble_eq_true rfl) (show d + 3 + 1 + 1 ≤ d + 5 by omega) (show 8 + (2 + 11) + 40 * (d + 3 + 1) ≤ 40 * (d + 5) by omega) (g_c0 hv15.ln) (Nat.le_of_ble_eq_true rfl) dX8_laysThrough_63 ?_
          intro r h25 hq _
          obtain ⟨v27, rfl, v27l, v27u, rfl, f26⟩ := hq
          try rw [show (v19 : Int32).toInt = (l2.toInt / 6) from e20] at f26
          try rw [show (v23 : Int32).toInt = (7 + (l2.toInt % 6)) from e24] at f26
          have eo : v27.toInt = OUTP l2.toInt := by unfold OUTP; omega
          refine go_invV (pc := 66) (sl := 0) (s_X8_reach_f l (d + 2) hv15 v27 (by rw [show (v27 : Int32).toInt = v27.toInt from (ti_rfl v27)]; omega) (by rw [show (v27 : Int32).toInt = v27.toInt from (ti_rfl v27)]; omega) (EM.hw f16)) mL_X8_347 iM_X8_reach sM_X8_reach (hv15.sh rfl) rfl rfl rfl (Nat.le_of_ble_eq_true rfl) (show d + 2 + 2 + 1 ≤ d + 5 by omega) (show 8 + (2 + 11) + 40 * (d + 2 + 2) ≤ 40 * (d + 5) by omega) (g_c0 hv15.ln) (Nat.le_of_ble_eq_true rfl) dX8_laysThrough_66 ?_
          intro r h28 hq _
          obtain ⟨rfl, hv28, f29, f30⟩ := hq
          have fx28 : FX KAr h h28 := FX.tr fx15 f30
          refine go_aload_n (pc := 69) rfl dX8_laysThrough_69 ?_
          refine go_iconst (pc := 70) (v := 0) (by decide) dX8_laysThrough_70 ?_
          refine go_iconst (pc := 71) (v := 0) (by decide) dX8_laysThrough_71 ?_
          have rc0 := f29
          rw [eo] at rc0
          have eb : 0 ≤ OUTP l2.toInt ∧ OUTP l2.toInt < 585 := by unfold OUTP; omega
          have fc := EM.fc (S := S) f16 rc0 eb.1 eb.2
          have ks2 : KS hx.2.1 h28.2.1 := f17.trans rc0.2.2
          have sM31 : (h28.2.1 70 6).toInt = S := by rw [hv28.fy (j := 6) (by omega), ← hv.fy (j := 6) (by omega)]; exact hS.symm
          refine go_invV (pc := 72) (sl := 0) (s_X8_goes_ff_f l (d + 0) hv28 0 (by rw [show (0 : Int32).toInt = 0 from (ti_c (v := 0) (a := 0) (by decide))]; omega) (by rw [show (0 : Int32).toInt = 0 from (ti_c (v := 0) (a := 0) (by decide))]; omega) 0 (by rw [show (0 : Int32).toInt = 0 from (ti_c (v := 0) (a := 0) (by decide))]; omega) (by rw [show (0 : Int32).toInt = 0 from (ti_c (v := 0) (a := 0) (by decide))]; omega) fc.1 (CKF.ve ((x0.trans (KT.ks ks2)).ve) ckf) (by rw [sM31]; exact fc.2)) mL_X8_359 iM_X8_goes sM_X8_goes (hv28.sh rfl) rfl rfl rfl (Nat.le_of_ble_eq_true rfl) (show d + 0 + 4 + 1 ≤ d + 5 by omega) (show 8 + (7 + 11) + 40 * (d + 0 + 4) ≤ 40 * (d + 5) by omega) (g_c0 hv28.ln) (Nat.le_of_ble_eq_true rfl) dX8_laysThrough_72 ?_
          intro r h32 hq _
          obtain ⟨rfl, hv32, f33, f34⟩ := hq
          rw [sM31] at f33
          try rw [show (0 : Int32).toInt = 0 from (ti_c (v := 0) (a := 0) (by decide))] at f33
          try rw [show (0 : Int32).toInt = 0 from (ti_c (v := 0) (a := 0) (by decide))] at f33
          try rw [show (0 : Int32).toInt = 0 from (ti_c (v := 0) (a := 0) (by decide))] at f34
          try rw [show (0 : Int32).toInt = 0 from (ti_c (v := 0) (a := 0) (by decide))] at f34
          have fx32 : FX KAr h h32 := FX.tr fx28 f34
          have ks3 : KS hx.2.1 h32.2.1 := ks2.trans f33.2.2.2
          have ts := TS.mk f16 rc0 (by omega) (by omega) f33
          have tcq := tc_ks ks3
          refine go_iconst (pc := 75) (v := 0) (by decide) dX8_laysThrough_75 ?_
          refine go_istore_n (pc := 76) (Nat.le_of_ble_eq_true rfl) dX8_laysThrough_76 (go_lv (lv2 := [(0, .ref 70), (1, .int l1), (2, .int l2), (3, .int 0)]) rfl ?_)
          refine go_iconst (pc := 77) (v := 0) (by decide) dX8_laysThrough_77 ?_
          refine go_istore (pc := 78) (Nat.le_of_ble_eq_true rfl) dX8_laysThrough_78 (go_lv (lv2 := [(0, .ref 70), (1, .int l1), (2, .int l2), (3, .int 0), (4, .int 0)]) rfl ?_)
          have z35 : (0 : Int32).toInt = 0 := (ti_c (v := 0) (a := 0) (by decide))
          have z36 : (0 : Int32).toInt = 0 := (ti_c (v := 0) (a := 0) (by decide))
          exact go_lv rfl (ih.2.2.2 l1 l2 0 0 h32 hv32 (by omega) (by omega) (by omega) (by omega) (by omega) (by omega) (x0.trans (KT.ks ks3)) ⟨TI1.ks ks3 x1.1, TN.ks ks3 x1.2⟩ ⟨tc_lo _, tc_hi _⟩ ts (by have e0 : (0 : Int32).toInt = 0 := (by decide); rw [e0]; exact BI.zero _ _) fx32 (by omega))
      ·
        intro l1 l2 l3 l4 hx hvx l1l l1u l2l l2u l4l l4u x0 x1 x2 x3 x4 fxx hm
        refine go_iload (pc := 80) rfl dX8_laysThrough_80 ?_
        refine go_bipush (pc := 82) (v := 6) (by decide) dX8_laysThrough_82 ?_
        refine gf_icmp_ge (pc := 84) (tgt := 122) (ti_rfl l4) (ti_c (v := 6) (a := 6) (by decide)) (by decide) dX8_laysThrough_84 (fun q37 => ?_) (fun q37 => ?_)
        ·
          refine go_iload_n (pc := 122) rfl dX8_laysThrough_122 ?_
          refine gf_if_ne (pc := 123) (tgt := 136) (ti_rfl l1) (by decide) dX8_laysThrough_123 (fun q38 => ?_) (fun q38 => ?_)
          ·
            refine go_iconst (pc := 136) (v := 1) (by decide) dX8_laysThrough_136 ?_
            refine go_goto (pc := 137) (tgt := 141) (by decide) dX8_laysThrough_137 ?_
            refine go_istore_n (pc := 141) (Nat.le_of_ble_eq_true rfl) dX8_laysThrough_141 (go_lv (lv2 := [(0, .ref 70), (1, .int 1), (2, .int l2), (3, .int l3), (4, .int l4)]) rfl ?_)
            refine go_aload_n (pc := 142) rfl dX8_laysThrough_142 ?_
            refine gi_getF (pc := 143) (q := 108) hvx fL_X8_124 rfl (Nat.le_of_ble_eq_true rfl) rfl (hvx.rf (by decide)) dX8_laysThrough_143 ?_
            refine go_iload_n (pc := 146) rfl dX8_laysThrough_146 ?_
            refine go_iload_n (pc := 147) rfl dX8_laysThrough_147 ?_
            refine gi_iast (pc := 148) (lo := -2147483648) (hi := 2147483647) (len := 30) hvx (ti_rfl l2) (ti_rfl l3) rfl (by omega) (by omega) (fun _ => rfl) (ti_ge (ti_rfl l3)) (ti_le2 (ti_rfl l3)) (by decide) dX8_laysThrough_148 (fun h39 hv39 hv39e => ?_)
            have fx39 : FX KAr h h39 := FX.pI fxx hv39e (by unfold KAr; omega)
            have b6 : BI hx.2.1 l2.toInt 6 l3 := by have z := x4; rw [show l4.toInt = 6 by omega] at z; exact z
            obtain ⟨t1, t2, t3, t4, t5⟩ := TI1.step (by omega) (by omega) x1.1 x1.2 x3 b6
            have eh : h39.2.1 = (fun p q => if p = 108 ∧ q = (l2.toInt).toNat then l3 else hx.2.1 p q) := by rw [hv39e]; rfl
            rw [← eh] at t1 t2 t3 t4 t5
            have smx := tc_hi h39.2.1
            refine gf_iinc (pc := 149) (Nat.le_of_ble_eq_true rfl) rfl (ti_rfl l2) (ti_c (by decide)) (by omega) (by omega) dX8_laysThrough_149 (fun v40 e41 => ?_)
            refine go_lv (lv2 := [(0, .ref 70), (1, .int 1), (2, .int v40), (3, .int l3), (4, .int l4)]) rfl ?_
            refine go_goto (pc := 152) (tgt := 31) (by decide) dX8_laysThrough_152 ?_
            have z42 : (1 : Int32).toInt = 1 := (ti_c (v := 1) (a := 1) (by decide))
            have z43 : (v40 : Int32).toInt = (l2.toInt + 1) := e41
            exact go_lv rfl (ih.2.2.1 1 v40 h39 hv39 (by omega) (by omega) (by omega) (by omega) (x0.trans t5) ⟨t1, t2⟩ ⟨tc_lo _, tc_hi _⟩ fx39 (by omega))
          ·
            refine go_iload_n (pc := 126) rfl dX8_laysThrough_126 ?_
            refine go_aload_n (pc := 127) rfl dX8_laysThrough_127 ?_
            refine gi_getF (pc := 128) (q := 108) hvx fL_X8_124 rfl (Nat.le_of_ble_eq_true rfl) rfl (hvx.rf (by decide)) dX8_laysThrough_128 ?_
            refine go_iload_n (pc := 131) rfl dX8_laysThrough_131 ?_
            refine gi_iald (pc := 132) (lo := -2147483648) (hi := 2147483647) (len := 30) hvx (ti_rfl l2) rfl (by omega) (by omega) (fun _ => rfl) dX8_laysThrough_132 (fun v44 v44l v44u v44w => ?_)
            refine gf_icmp_eq (pc := 133) (tgt := 140) (ti_rfl l3) (ti_rfl v44) (by decide) dX8_laysThrough_133 (fun q45 => ?_) (fun q45 => ?_)
            ·
              refine go_iconst (pc := 140) (v := 0) (by decide) dX8_laysThrough_140 ?_
              refine go_istore_n (pc := 141) (Nat.le_of_ble_eq_true rfl) dX8_laysThrough_141 (go_lv (lv2 := [(0, .ref 70), (1, .int 0), (2, .int l2), (3, .int l3), (4, .int l4)]) rfl ?_)
              refine go_aload_n (pc := 142) rfl dX8_laysThrough_142 ?_
              refine gi_getF (pc := 143) (q := 108) hvx fL_X8_124 rfl (Nat.le_of_ble_eq_true rfl) rfl (hvx.rf (by decide)) dX8_laysThrough_143 ?_
              refine go_iload_n (pc := 146) rfl dX8_laysThrough_146 ?_
              refine go_iload_n (pc := 147) rfl dX8_laysThrough_147 ?_
              refine gi_iast (pc := 148) (lo := -2147483648) (hi := 2147483647) (len := 30) hvx (ti_rfl l2) (ti_rfl l3) rfl (by omega) (by omega) (fun _ => rfl) (ti_ge (ti_rfl l3)) (ti_le2 (ti_rfl l3)) (by decide) dX8_laysThrough_148 (fun h46 hv46 hv46e => ?_)
              have fx46 : FX KAr h h46 := FX.pI fxx hv46e (by unfold KAr; omega)
              have b6 : BI hx.2.1 l2.toInt 6 l3 := by have z := x4; rw [show l4.toInt = 6 by omega] at z; exact z
              obtain ⟨t1, t2, t3, t4, t5⟩ := TI1.step (by omega) (by omega) x1.1 x1.2 x3 b6
              have eh : h46.2.1 = (fun p q => if p = 108 ∧ q = (l2.toInt).toNat then l3 else hx.2.1 p q) := by rw [hv46e]; rfl
              rw [← eh] at t1 t2 t3 t4 t5
              have smx := tc_hi h46.2.1
              have t6 : ¬ l3.toInt = v44.toInt → tc hx.2.1 + 1 ≤ tc h46.2.1 := fun q => t4 (fun z => q (by rw [z, v44w]))
              refine gf_iinc (pc := 149) (Nat.le_of_ble_eq_true rfl) rfl (ti_rfl l2) (ti_c (by decide)) (by omega) (by omega) dX8_laysThrough_149 (fun v47 e48 => ?_)
              refine go_lv (lv2 := [(0, .ref 70), (1, .int 0), (2, .int v47), (3, .int l3), (4, .int l4)]) rfl ?_
              refine go_goto (pc := 152) (tgt := 31) (by decide) dX8_laysThrough_152 ?_
              have z49 : (0 : Int32).toInt = 0 := (ti_c (v := 0) (a := 0) (by decide))
              have z50 : (v47 : Int32).toInt = (l2.toInt + 1) := e48
              exact go_lv rfl (ih.2.2.1 0 v47 h46 hv46 (by omega) (by omega) (by omega) (by omega) (x0.trans t5) ⟨t1, t2⟩ ⟨tc_lo _, tc_hi _⟩ fx46 (by omega))
            ·
              refine go_iconst (pc := 136) (v := 1) (by decide) dX8_laysThrough_136 ?_
              refine go_goto (pc := 137) (tgt := 141) (by decide) dX8_laysThrough_137 ?_
              refine go_istore_n (pc := 141) (Nat.le_of_ble_eq_true rfl) dX8_laysThrough_141 (go_lv (lv2 := [(0, .ref 70), (1, .int 1), (2, .int l2), (3, .int l3), (4, .int l4)]) rfl ?_)
              refine go_aload_n (pc := 142) rfl dX8_laysThrough_142 ?_
              refine gi_getF (pc := 143) (q := 108) hvx fL_X8_124 rfl (Nat.le_of_ble_eq_true rfl) rfl (hvx.rf (by decide)) dX8_laysThrough_143 ?_
              refine go_iload_n (pc := 146) rfl dX8_laysThrough_146 ?_
              refine go_iload_n (pc := 147) rfl dX8_laysThrough_147 ?_
              refine gi_iast (pc := 148) (lo := -2147483648) (hi := 2147483647) (len := 30) hvx (ti_rfl l2) (ti_rfl l3) rfl (by omega) (by omega) (fun _ => rfl) (ti_ge (ti_rfl l3)) (ti_le2 (ti_rfl l3)) (by decide) dX8_laysThrough_148 (fun h51 hv51 hv51e => ?_)
              have fx51 : FX KAr h h51 := FX.pI fxx hv51e (by unfold KAr; omega)
              have b6 : BI hx.2.1 l2.toInt 6 l3 := by have z := x4; rw [show l4.toInt = 6 by omega] at z; exact z
              obtain ⟨t1, t2, t3, t4, t5⟩ := TI1.step (by omega) (by omega) x1.1 x1.2 x3 b6
              have eh : h51.2.1 = (fun p q => if p = 108 ∧ q = (l2.toInt).toNat then l3 else hx.2.1 p q) := by rw [hv51e]; rfl
              rw [← eh] at t1 t2 t3 t4 t5
              have smx := tc_hi h51.2.1
              have t6 : ¬ l3.toInt = v44.toInt → tc hx.2.1 + 1 ≤ tc h51.2.1 := fun q => t4 (fun z => q (by rw [z, v44w]))
              refine gf_iinc (pc := 149) (Nat.le_of_ble_eq_true rfl) rfl (ti_rfl l2) (ti_c (by decide)) (by omega) (by omega) dX8_laysThrough_149 (fun v52 e53 => ?_)
              refine go_lv (lv2 := [(0, .ref 70), (1, .int 1), (2, .int v52), (3, .int l3), (4, .int l4)]) rfl ?_
              refine go_goto (pc := 152) (tgt := 31) (by decide) dX8_laysThrough_152 ?_
              have z54 : (1 : Int32).toInt = 1 := (ti_c (v := 1) (a := 1) (by decide))
              have z55 : (v52 : Int32).toInt = (l2.toInt + 1) := e53
              exact go_lv rfl (ih.2.2.1 1 v52 h51 hv51 (by omega) (by omega) (by omega) (by omega) (x0.trans t5) ⟨t1, t2⟩ ⟨tc_lo _, tc_hi _⟩ fx51 (by omega))
        ·
          refine go_iload_n (pc := 87) rfl dX8_laysThrough_87 ?_
          refine go_aload_n (pc := 88) rfl dX8_laysThrough_88 ?_
          refine go_iload_n (pc := 89) rfl dX8_laysThrough_89 ?_
          refine go_bipush (pc := 90) (v := 6) (by decide) dX8_laysThrough_90 ?_
          refine gf_idiv (pc := 92) (ti_rfl l2) (ti_c (v := 6) (a := 6) (by decide)) (by omega) (by omega) dX8_laysThrough_92 (fun v56 e57 => ?_)
          refine go_iconst (pc := 93) (v := 1) (by decide) dX8_laysThrough_93 ?_
          refine go_iload (pc := 94) rfl dX8_laysThrough_94 ?_
          refine gf_iadd (pc := 96) (ti_c (v := 1) (a := 1) (by decide)) (ti_rfl l4) (by omega) (by omega) dX8_laysThrough_96 (fun v58 e59 => ?_)
          refine go_invS (pc := 97) (sl := 0) (s_X8_procedurePlace_x l (d + 3) hvx v56 (by rw [show (v56 : Int32).toInt = (l2.toInt / 6) from e57]; omega) (by rw [show (v56 : Int32).toInt = (l2.toInt / 6) from e57]; omega) v58 (by rw [show (v58 : Int32).toInt = (1 + l4.toInt) from e59]; omega) (by rw [show (v58 : Int32).toInt = (1 + l4.toInt) from e59]; omega)) mL_X8_300 iM_X8_procedurePlace rfl rfl (Nat.le_of_ble_eq_true rfl) (show d + 3 + 1 + 1 ≤ d + 5 by omega) (show 8 + (2 + 11) + 40 * (d + 3 + 1) ≤ 40 * (d + 5) by omega) (g_c0 hvx.ln) (Nat.le_of_ble_eq_true rfl) dX8_laysThrough_97 ?_
          intro r h60 hq _
          obtain ⟨v62, rfl, v62l, v62u, rfl, f61⟩ := hq
          try rw [show (v56 : Int32).toInt = (l2.toInt / 6) from e57] at f61
          try rw [show (v58 : Int32).toInt = (1 + l4.toInt) from e59] at f61
          refine go_invV (pc := 100) (sl := 0) (s_X8_isInSet_x l (d + 3) hvx v62 (by rw [show (v62 : Int32).toInt = v62.toInt from (ti_rfl v62)]; omega) (by rw [show (v62 : Int32).toInt = v62.toInt from (ti_rfl v62)]; omega)) mL_X8_341 iM_X8_isInSet sM_X8_isInSet (hvx.sh rfl) rfl rfl rfl (Nat.le_of_ble_eq_true rfl) (show d + 3 + 1 + 1 ≤ d + 5 by omega) (show 8 + (2 + 11) + 40 * (d + 3 + 1) ≤ 40 * (d + 5) by omega) (g_c0 hvx.ln) (Nat.le_of_ble_eq_true rfl) dX8_laysThrough_100 ?_
          intro r h63 hq _
          obtain ⟨v65, rfl, v65l, v65u, rfl, f64⟩ := hq
          have ei : v62.toInt = INP l2.toInt l4.toInt := by unfold INP; omega
          have isf := f64
          rw [ei] at isf
          refine gf_if_eq (pc := 103) (tgt := 113) (ti_rfl v65) (by decide) dX8_laysThrough_103 (fun q66 => ?_) (fun q66 => ?_)
          ·
            refine go_iconst (pc := 113) (v := 0) (by decide) dX8_laysThrough_113 ?_
            refine gx_ior (pc := 114) dX8_laysThrough_114 (fun v67 v67x => ?_)
            refine go_istore_n (pc := 115) (Nat.le_of_ble_eq_true rfl) dX8_laysThrough_115 (go_lv (lv2 := [(0, .ref 70), (1, .int l1), (2, .int l2), (3, .int v67), (4, .int l4)]) rfl ?_)
            refine gf_iinc (pc := 116) (Nat.le_of_ble_eq_true rfl) rfl (ti_rfl l4) (ti_c (by decide)) (by omega) (by omega) dX8_laysThrough_116 (fun v68 e69 => ?_)
            refine go_lv (lv2 := [(0, .ref 70), (1, .int l1), (2, .int l2), (3, .int v67), (4, .int v68)]) rfl ?_
            refine go_goto (pc := 119) (tgt := 80) (by decide) dX8_laysThrough_119 ?_
            have z70 : (v68 : Int32).toInt = (l4.toInt + 1) := e69
            exact go_lv rfl (ih.2.2.2 l1 l2 v67 v68 hx hvx (by omega) (by omega) (by omega) (by omega) (by omega) (by omega) x0 x1 ⟨tc_lo _, tc_hi _⟩ x3 (by rw [show (v68 : Int32).toInt = l4.toInt + 1 from e69, v67x]; exact BI.skip (by omega) x4 (isf.2 (by omega))) fxx (by omega))
          ·
            refine go_iconst (pc := 106) (v := 1) (by decide) dX8_laysThrough_106 ?_
            refine go_iload (pc := 107) rfl dX8_laysThrough_107 ?_
            refine gx_ishl (pc := 109) dX8_laysThrough_109 (fun v71 v71x => ?_)
            refine go_goto (pc := 110) (tgt := 114) (by decide) dX8_laysThrough_110 ?_
            refine gx_ior (pc := 114) dX8_laysThrough_114 (fun v72 v72x => ?_)
            refine go_istore_n (pc := 115) (Nat.le_of_ble_eq_true rfl) dX8_laysThrough_115 (go_lv (lv2 := [(0, .ref 70), (1, .int l1), (2, .int l2), (3, .int v72), (4, .int l4)]) rfl ?_)
            refine gf_iinc (pc := 116) (Nat.le_of_ble_eq_true rfl) rfl (ti_rfl l4) (ti_c (by decide)) (by omega) (by omega) dX8_laysThrough_116 (fun v73 e74 => ?_)
            refine go_lv (lv2 := [(0, .ref 70), (1, .int l1), (2, .int l2), (3, .int v72), (4, .int v73)]) rfl ?_
            refine go_goto (pc := 119) (tgt := 80) (by decide) dX8_laysThrough_119 ?_
            have z75 : (v73 : Int32).toInt = (l4.toInt + 1) := e74
            exact go_lv rfl (ih.2.2.2 l1 l2 v72 v73 hx hvx (by omega) (by omega) (by omega) (by omega) (by omega) (by omega) x0 x1 ⟨tc_lo _, tc_hi _⟩ x3 (by rw [show (v73 : Int32).toInt = l4.toInt + 1 from e74, v72x, v71x]; exact BI.add (by omega) (by omega) x4 (isf.1 (by omega))) fxx (by omega))
  refine go_iconst (pc := 0) (v := 0) (by decide) dX8_laysThrough_0 ?_
  refine go_istore_n (pc := 1) (Nat.le_of_ble_eq_true rfl) dX8_laysThrough_1 (go_lv (lv2 := [(0, .ref 70), (1, .int 0)]) rfl ?_)
  have z76 : (0 : Int32).toInt = 0 := (ti_c (v := 0) (a := 0) (by decide))
  exact go_lv rfl ((key 2000001).1 0 h hv (by omega) (by omega) (KT.rfl _) (fun j q => absurd q (by omega)) fx (by omega))
