
set_option maxHeartbeats 4000000 in
set_option maxRecDepth 100000 in
theorem s_X8_reach_f (l : Launch) (d : Nat) {P : PP} {h : HP} (hv : Iv P h) (a2 : Int32) (a2l : 0 ≤ a2.toInt) (a2u : a2.toInt ≤ 584) (hw : WT h.2.1 ≤ ct h.2.1 109) : Mt l yX8_reach cX8_reach 2 none (d + 2) [.ref 70, .int a2] h 0 0 (fun r h' => r = none ∧ Iv P h' ∧ (RC h.2.1 h'.2.1 a2.toInt) ∧ (FX KAr h h')) := by
  refine Mt_iv hv (by decide) (Nat.le_of_ble_eq_true rfl) ?_
  show Go l RX8 cX8_reach 2 (g_rm (d + 2) 0 0) "reach" none 117 0 0 (fun _ _ => True) (fun r h' => r = none ∧ Iv P h' ∧ (RC h.2.1 h'.2.1 a2.toInt) ∧ (FX KAr h h')) 0 0 [(0, .ref 70), (1, .int a2)] [] h
  have fx : FX KAr h h := FX.rfl
  obtain ⟨u70_47, u70_47w⟩ : ∃ v : Int32, v = h.2.1 70 47 := ⟨_, rfl⟩
  have u70_47e : (h.2.1 70 47).toInt = u70_47.toInt := by rw [u70_47w]
  have u70_47l : 0 ≤ u70_47.toInt := by rw [u70_47w]; exact (hv.2.1 70 47).1
  have u70_47u : u70_47.toInt ≤ 585 := by rw [u70_47w]; exact (hv.2.1 70 47).2
  have hw2 : (h.2.1 70 47).toInt ≤ ct h.2.1 109 := hw
  refine go_aload_n (pc := 0) rfl dX8_reach_0 ?_
  refine go_iload_n (pc := 1) rfl dX8_reach_1 ?_
  refine go_invV (pc := 2) (sl := 0) (s_X8_isInSet_x l (d + 0) hv a2 (by rw [show (a2 : Int32).toInt = a2.toInt from (ti_rfl a2)]; omega) (by rw [show (a2 : Int32).toInt = a2.toInt from (ti_rfl a2)]; omega)) mL_X8_341 iM_X8_isInSet sM_X8_isInSet (hv.sh rfl) rfl rfl rfl (Nat.le_of_ble_eq_true rfl) (show d + 0 + 1 + 1 ≤ d + 2 by omega) (show 8 + (2 + 11) + 40 * (d + 0 + 1) ≤ 40 * (d + 2) by omega) (g_c0 hv.ln) (Nat.le_of_ble_eq_true rfl) dX8_reach_2 ?_
  intro r h1 hq _
  obtain ⟨v3, rfl, v3l, v3u, rfl, f2⟩ := hq
  refine gf_if_eq (pc := 5) (tgt := 9) (ti_rfl v3) (by decide) dX8_reach_5 (fun q4 => ?_) (fun q4 => ?_)
  ·
    refine go_aload_n (pc := 9) rfl dX8_reach_9 ?_
    refine gi_getF (pc := 10) (q := 109) hv fL_X8_127 rfl (Nat.le_of_ble_eq_true rfl) rfl (hv.rf (by decide)) dX8_reach_10 ?_
    refine go_iload_n (pc := 13) rfl dX8_reach_13 ?_
    refine go_bipush (pc := 14) (v := 32) (by decide) dX8_reach_14 ?_
    refine gf_idiv (pc := 16) (ti_rfl a2) (ti_c (v := 32) (a := 32) (by decide)) (by omega) (by omega) dX8_reach_16 (fun v5 e6 => ?_)
    refine go_dup2 (pc := 17) rfl rfl dX8_reach_17 ?_
    refine gi_iald (pc := 18) (lo := -2147483648) (hi := 2147483647) (len := 19) hv e6 rfl (by omega) (by omega) (fun _ => rfl) dX8_reach_18 (fun v7 v7l v7u v7w => ?_)
    refine go_iconst (pc := 19) (v := 1) (by decide) dX8_reach_19 ?_
    refine go_iload_n (pc := 20) rfl dX8_reach_20 ?_
    refine go_bipush (pc := 21) (v := 32) (by decide) dX8_reach_21 ?_
    refine gf_irem (pc := 23) (ti_rfl a2) (ti_c (v := 32) (a := 32) (by decide)) (by omega) (by omega) dX8_reach_23 (fun v8 e9 => ?_)
    refine gx_ishl (pc := 24) dX8_reach_24 (fun v10 v10x => ?_)
    refine gx_ior (pc := 25) dX8_reach_25 (fun v11 v11x => ?_)
    refine gi_iast (pc := 26) (lo := -2147483648) (hi := 2147483647) (len := 19) hv e6 (ti_rfl v11) rfl (by omega) (by omega) (fun _ => rfl) (ti_ge (ti_rfl v11)) (ti_le2 (ti_rfl v11)) (by decide) dX8_reach_26 (fun h12 hv12 hv12e => ?_)
    have fx12 : FX KAr h h12 := FX.pI fx hv12e (by unfold KAr; omega)
    refine go_aload_n (pc := 27) rfl dX8_reach_27 ?_
    refine gi_getF (pc := 28) (q := 110) hv12 fL_X8_130 rfl (Nat.le_of_ble_eq_true rfl) rfl (hv12.rf (by decide)) dX8_reach_28 ?_
    refine go_aload_n (pc := 31) rfl dX8_reach_31 ?_
    refine gi_get (pc := 32) (lo := 0) (hi := 585) hv12 fL_X8_344 rfl (Nat.le_of_ble_eq_true rfl) rfl rfl dX8_reach_32 (fun v13 v13l v13u v13w => ?_)
    have v13r : u70_47 = h12.2.1 70 47 := (show u70_47 = h12.2.1 70 47 from by rw [hv12e]; exact (g_iI rfl u70_47w.symm).symm)
    have v13q : TI v13 u70_47.toInt := by rw [v13w.trans v13r.symm]; exact (ti_rfl u70_47)
    refine go_iload_n (pc := 35) rfl dX8_reach_35 ?_
    have kk : u70_47.toInt ≤ 584 := by have q := ct_miss (F := h.2.1) (c := 109) (x := a2.toInt) (by omega) (by omega) (f2.2 (by omega)); omega
    refine gi_iast (pc := 36) (lo := 0) (hi := 584) (len := 585) hv12 v13q (ti_rfl a2) rfl (by omega) (by omega) (fun _ => rfl) (by omega) (by omega) (by decide) dX8_reach_36 (fun h14 hv14 hv14e => ?_)
    have fx14 : FX KAr h h14 := FX.pI fx12 hv14e (by unfold KAr; omega)
    refine go_aload_n (pc := 37) rfl dX8_reach_37 ?_
    refine go_dup (pc := 38) rfl dX8_reach_38 ?_
    refine gi_get (pc := 39) (lo := 0) (hi := 585) hv14 fL_X8_344 rfl (Nat.le_of_ble_eq_true rfl) rfl rfl dX8_reach_39 (fun v15 v15l v15u v15w => ?_)
    have v15r : u70_47 = h14.2.1 70 47 := (show u70_47 = h14.2.1 70 47 from by rw [hv14e]; exact (g_iI rfl (show u70_47 = h12.2.1 70 47 from by rw [hv12e]; exact (g_iI rfl u70_47w.symm).symm).symm).symm)
    have v15q : TI v15 u70_47.toInt := by rw [v15w.trans v15r.symm]; exact (ti_rfl u70_47)
    refine go_iconst (pc := 42) (v := 1) (by decide) dX8_reach_42 ?_
    refine gf_iadd (pc := 43) v15q (ti_c (v := 1) (a := 1) (by decide)) (by omega) (by omega) dX8_reach_43 (fun v16 e17 => ?_)
    refine gi_put (pc := 44) (lo := 0) (hi := 585) hv14 e17 (fP_X8_344 _) rfl (Nat.le_of_ble_eq_true rfl) rfl rfl (by omega) (by omega) rfl rfl (by decide) (by decide) (by decide) (by decide) dX8_reach_44 (fun h18 hv18 hv18e => ?_)
    have fx18 : FX KAr h h18 := FX.pI fx14 hv18e (by unfold KAr; omega)
    have eR : h18.2.1 = (fun p q => if p = 70 ∧ q = 47 then v16 else if p = 110 ∧ q = (WT h.2.1).toNat then a2 else if p = 109 ∧ q = (a2.toInt / 32).toNat then v11 else h.2.1 p q) := by (rw [hv18e, hv14e, hv12e, show (WT h.2.1).toNat = (u70_47.toInt).toNat from by rw [← u70_47e]; rfl]; rfl)
    exact gi_vret (pc := 47) ⟨rfl, hv18, (by rw [eR]; exact RC.new (by omega) (by omega) e9 (by rw [v11x, v10x, v7w]) rfl (by rw [show (v16 : Int32).toInt = (u70_47.toInt + 1) from e17]; show _ = (h.2.1 70 47).toInt + 1; omega) (by show 0 ≤ (h.2.1 70 47).toInt; omega) (f2.2 (by omega))), fx18⟩ hv18 dX8_reach_47
  ·
    exact gi_vret (pc := 8) ⟨rfl, hv, (RC.old (f2.1 (by omega))), fx⟩ hv dX8_reach_8
set_option maxHeartbeats 4000000 in
set_option maxRecDepth 100000 in
theorem s_X8_goesUp_f (l : Launch) (d : Nat) {P : PP} {h : HP} (hv : Iv P h) (a2 : Int32) (a2l : 0 ≤ a2.toInt) (a2u : a2.toInt ≤ 4) (a3 : Int32) (a3l : 0 ≤ a3.toInt) (a3u : a3.toInt ≤ 6) (hw : WT h.2.1 ≤ ct h.2.1 109) : Mt l yX8_goesUp cX8_goesUp 4 none (d + 3) [.ref 70, .int a2, .int a3] h 0 0 (fun r h' => r = none ∧ Iv P h' ∧ (PH h.2.1 h'.2.1) ∧ (FX KAr h h')) := by
  refine Mt_iv hv (by decide) (Nat.le_of_ble_eq_true rfl) ?_
  show Go l RX8 cX8_goesUp 4 (g_rm (d + 3) 0 0) "goesUp" none 117 0 0 (fun _ _ => True) (fun r h' => r = none ∧ Iv P h' ∧ (PH h.2.1 h'.2.1) ∧ (FX KAr h h')) 0 0 [(0, .ref 70), (1, .int a2), (2, .int a3)] [] h
  obtain ⟨S, hS⟩ : ∃ S : Int, S = (h.2.1 70 6).toInt := ⟨_, rfl⟩
  have S0 : 0 ≤ S := by rw [hS]; exact (hv.2.1 70 6).1
  have S1 : S ≤ 1 := by rw [hS]; exact (hv.2.1 70 6).2
  have fx : FX KAr h h := FX.rfl
  have key : ∀ n : Nat, (∀ (l1 : Int32) (l2 : Int32) (l3 : Int32) (hx : HP), Iv P hx → 0 ≤ l1.toInt → l1.toInt ≤ 4 → 0 ≤ l2.toInt → l2.toInt ≤ 6 → 0 ≤ l3.toInt → l3.toInt ≤ 40 → (PH h.2.1 hx.2.1) → FX KAr h hx → (3 * (40 - l3.toInt) + 2 : Int) < n → Go l RX8 cX8_goesUp 4 (g_rm (d + 3) 0 0) "goesUp" none 117 0 0 (fun _ _ => True) (fun r h' => r = none ∧ Iv P h' ∧ (PH h.2.1 h'.2.1) ∧ (FX KAr h h')) 0 2 [(0, .ref 70), (1, .int l1), (2, .int l2), (3, .int l3)] [] hx) := by
    intro n
    induction n with
    | zero => exact (by intros; omega)
    | succ n ih =>
      refine ?_
      ·
        intro l1 l2 l3 hx hvx l1l l1u l2l l2u l3l l3u x0 fxx hm
        refine go_iload_n (pc := 2) rfl dX8_goesUp_2 ?_
        refine go_aload_n (pc := 3) rfl dX8_goesUp_3 ?_
        refine gi_getF (pc := 4) (q := 75) hvx fL_X8_23 rfl (Nat.le_of_ble_eq_true rfl) rfl (hvx.rf (by decide)) dX8_goesUp_4 ?_
        refine go_aload_n (pc := 7) rfl dX8_goesUp_7 ?_
        refine gi_get (pc := 8) (lo := 0) (hi := 1) hvx fL_X8_187 rfl (Nat.le_of_ble_eq_true rfl) rfl rfl dX8_goesUp_8 (fun v1 v1l v1u v1w => ?_)
        have v1S : v1.toInt = S := by rw [v1w, hvx.fy (j := 6) (by omega), ← hv.fy (j := 6) (by omega)]; exact hS.symm
        refine gi_iald (pc := 11) (lo := 0) (hi := 40) (len := 2) hvx (ti_rfl v1) rfl (by omega) (by omega) (fun _ => rfl) dX8_goesUp_11 (fun v2 v2l v2u v2w => ?_)
        have v2V : v2.toInt = V h.2.1 75 S := by rw [v2w, v1S, hvx.fz (c := 75) (by omega) (by omega), ← hv.fz (c := 75) (by omega) (by omega)]; rfl
        refine gf_icmp_ge (pc := 12) (tgt := 53) (ti_rfl l3) (ti_rfl v2) (by decide) dX8_goesUp_12 (fun q3 => ?_) (fun q3 => ?_)
        ·
          exact gi_vret (pc := 53) ⟨rfl, hvx, x0, fxx⟩ hvx dX8_goesUp_53
        ·
          refine go_aload_n (pc := 15) rfl dX8_goesUp_15 ?_
          refine go_iload_n (pc := 16) rfl dX8_goesUp_16 ?_
          refine go_invV (pc := 17) (sl := 0) (s_X8_kindAt l (d + 0) hvx l3 (by rw [show (l3 : Int32).toInt = l3.toInt from (ti_rfl l3)]; omega) (by rw [show (l3 : Int32).toInt = l3.toInt from (ti_rfl l3)]; omega)) mL_X8_271 iM_X8_kindAt sM_X8_kindAt (hvx.sh rfl) rfl rfl rfl (Nat.le_of_ble_eq_true rfl) (show d + 0 + 2 + 1 ≤ d + 3 by omega) (show 8 + (2 + 11) + 40 * (d + 0 + 2) ≤ 40 * (d + 3) by omega) (g_c0 hvx.ln) (Nat.le_of_ble_eq_true rfl) dX8_goesUp_17 ?_
          intro r h4 hq _
          obtain ⟨v6, rfl, v6l, v6u, rfl, f5⟩ := hq
          have v6K : v6.toInt = V h.2.1 77 (V h.2.1 93 (40 * S + l3.toInt)) := by rw [f5]; unfold g_kd g_it; rw [hvx.fy (j := 6) (by omega), ← hv.fy (j := 6) (by omega), ← hS, hvx.fz (c := 93) (by omega) (by omega), ← hv.fz (c := 93) (by omega) (by omega), hvx.fz (c := 77) (by omega) (by omega), ← hv.fz (c := 77) (by omega) (by omega)]; rfl
          refine go_iconst (pc := 20) (v := 1) (by decide) dX8_goesUp_20 ?_
          refine gf_icmp_ne (pc := 21) (tgt := 47) (ti_rfl v6) (ti_c (v := 1) (a := 1) (by decide)) (by decide) dX8_goesUp_21 (fun q7 => ?_) (fun q7 => ?_)
          ·
            refine gf_iinc (pc := 47) (Nat.le_of_ble_eq_true rfl) rfl (ti_rfl l3) (ti_c (by decide)) (by omega) (by omega) dX8_goesUp_47 (fun v8 e9 => ?_)
            refine go_lv (lv2 := [(0, .ref 70), (1, .int l1), (2, .int l2), (3, .int v8)]) rfl ?_
            refine go_goto (pc := 50) (tgt := 2) (by decide) dX8_goesUp_50 ?_
            have z10 : (v8 : Int32).toInt = (l3.toInt + 1) := e9
            exact go_lv rfl (ih l1 l2 v8 hx hvx (by omega) (by omega) (by omega) (by omega) (by omega) (by omega) x0 fxx (by omega))
          ·
            refine go_aload_n (pc := 24) rfl dX8_goesUp_24 ?_
            refine gi_getF (pc := 25) (q := 84) hvx fL_X8_50 rfl (Nat.le_of_ble_eq_true rfl) rfl (hvx.rf (by decide)) dX8_goesUp_25 ?_
            refine go_aload_n (pc := 28) rfl dX8_goesUp_28 ?_
            refine go_iload_n (pc := 29) rfl dX8_goesUp_29 ?_
            refine go_invV (pc := 30) (sl := 0) (s_X8_item l (d + 1) hvx l3 (by rw [show (l3 : Int32).toInt = l3.toInt from (ti_rfl l3)]; omega) (by rw [show (l3 : Int32).toInt = l3.toInt from (ti_rfl l3)]; omega)) mL_X8_268 iM_X8_item sM_X8_item (hvx.sh rfl) rfl rfl rfl (Nat.le_of_ble_eq_true rfl) (show d + 1 + 1 + 1 ≤ d + 3 by omega) (show 8 + (2 + 11) + 40 * (d + 1 + 1) ≤ 40 * (d + 3) by omega) (g_c0 hvx.ln) (Nat.le_of_ble_eq_true rfl) dX8_goesUp_30 ?_
            intro r h11 hq _
            obtain ⟨v13, rfl, v13l, v13u, rfl, f12⟩ := hq
            have v13K : v13.toInt = V h.2.1 93 (40 * S + l3.toInt) := by rw [f12]; unfold g_it; rw [hvx.fy (j := 6) (by omega), ← hv.fy (j := 6) (by omega), ← hS, hvx.fz (c := 93) (by omega) (by omega), ← hv.fz (c := 93) (by omega) (by omega)]; rfl
            refine gi_iald (pc := 33) (lo := -2) (hi := 4) (len := 260) hvx (ti_rfl v13) rfl (by omega) (by omega) (fun _ => rfl) dX8_goesUp_33 (fun v14 v14l v14u v14w => ?_)
            have v14V : v14.toInt = V h.2.1 84 v13.toInt := by rw [v14w, hvx.fz (c := 84) (by omega) (by omega), ← hv.fz (c := 84) (by omega) (by omega)]; rfl
            refine go_iload_n (pc := 34) rfl dX8_goesUp_34 ?_
            refine gf_icmp_ne (pc := 35) (tgt := 47) (ti_rfl v14) (ti_rfl l1) (by decide) dX8_goesUp_35 (fun q15 => ?_) (fun q15 => ?_)
            ·
              refine gf_iinc (pc := 47) (Nat.le_of_ble_eq_true rfl) rfl (ti_rfl l3) (ti_c (by decide)) (by omega) (by omega) dX8_goesUp_47 (fun v16 e17 => ?_)
              refine go_lv (lv2 := [(0, .ref 70), (1, .int l1), (2, .int l2), (3, .int v16)]) rfl ?_
              refine go_goto (pc := 50) (tgt := 2) (by decide) dX8_goesUp_50 ?_
              have z18 : (v16 : Int32).toInt = (l3.toInt + 1) := e17
              exact go_lv rfl (ih l1 l2 v16 hx hvx (by omega) (by omega) (by omega) (by omega) (by omega) (by omega) x0 fxx (by omega))
            ·
              refine go_aload_n (pc := 38) rfl dX8_goesUp_38 ?_
              refine go_iload_n (pc := 39) rfl dX8_goesUp_39 ?_
              refine go_iload_n (pc := 40) rfl dX8_goesUp_40 ?_
              refine go_invS (pc := 41) (sl := 0) (s_X8_statementPlace l (d + 1) hvx l3 (by rw [show (l3 : Int32).toInt = l3.toInt from (ti_rfl l3)]; omega) (by rw [show (l3 : Int32).toInt = l3.toInt from (ti_rfl l3)]; omega) l2 (by rw [show (l2 : Int32).toInt = l2.toInt from (ti_rfl l2)]; omega) (by rw [show (l2 : Int32).toInt = l2.toInt from (ti_rfl l2)]; omega)) mL_X8_291 iM_X8_statementPlace rfl rfl (Nat.le_of_ble_eq_true rfl) (show d + 1 + 1 + 1 ≤ d + 3 by omega) (show 8 + (2 + 11) + 40 * (d + 1 + 1) ≤ 40 * (d + 3) by omega) (g_c0 hvx.ln) (Nat.le_of_ble_eq_true rfl) dX8_goesUp_41 ?_
              intro r h19 hq _
              obtain ⟨v20, rfl, v20l, v20u, rfl⟩ := hq
              refine go_invV (pc := 44) (sl := 0) (s_X8_reach_f l (d + 0) hvx v20 (by rw [show (v20 : Int32).toInt = v20.toInt from (ti_rfl v20)]; omega) (by rw [show (v20 : Int32).toInt = v20.toInt from (ti_rfl v20)]; omega) x0.1) mL_X8_347 iM_X8_reach sM_X8_reach (hvx.sh rfl) rfl rfl rfl (Nat.le_of_ble_eq_true rfl) (show d + 0 + 2 + 1 ≤ d + 3 by omega) (show 8 + (2 + 11) + 40 * (d + 0 + 2) ≤ 40 * (d + 3) by omega) (g_c0 hvx.ln) (Nat.le_of_ble_eq_true rfl) dX8_goesUp_44 ?_
              intro r h21 hq _
              obtain ⟨rfl, hv21, f22, f23⟩ := hq
              have fx21 : FX KAr h h21 := FX.tr fxx f23
              have ph24s := (RC.ph f22 (by omega) (by omega) x0.1)
              have ph24c := ph24s.2.1
              have ph24 : PH h.2.1 h21.2.1 := x0.trans ph24s
              have ph24a := ph24.1
              have ph24b := ph24.2.1
              refine gf_iinc (pc := 47) (Nat.le_of_ble_eq_true rfl) rfl (ti_rfl l3) (ti_c (by decide)) (by omega) (by omega) dX8_goesUp_47 (fun v25 e26 => ?_)
              refine go_lv (lv2 := [(0, .ref 70), (1, .int l1), (2, .int l2), (3, .int v25)]) rfl ?_
              refine go_goto (pc := 50) (tgt := 2) (by decide) dX8_goesUp_50 ?_
              have z27 : (v25 : Int32).toInt = (l3.toInt + 1) := e26
              exact go_lv rfl (ih l1 l2 v25 h21 hv21 (by omega) (by omega) (by omega) (by omega) (by omega) (by omega) ph24 fx21 (by omega))
  have ph0 : PH h.2.1 h.2.1 := PH.rfl hw
  refine go_iconst (pc := 0) (v := 0) (by decide) dX8_goesUp_0 ?_
  refine go_istore_n (pc := 1) (Nat.le_of_ble_eq_true rfl) dX8_goesUp_1 (go_lv (lv2 := [(0, .ref 70), (1, .int a2), (2, .int a3), (3, .int 0)]) rfl ?_)
  have z28 : (0 : Int32).toInt = 0 := (ti_c (v := 0) (a := 0) (by decide))
  exact go_lv rfl ((key 139) a2 a3 0 h hv (by omega) (by omega) (by omega) (by omega) (by omega) (by omega) ph0 fx (by omega))
set_option maxHeartbeats 4000000 in
set_option maxRecDepth 100000 in
theorem s_X8_reachAll_f (l : Launch) (d : Nat) {P : PP} {h : HP} (hv : Iv P h) (a2 : Int32) (a2l : 0 ≤ a2.toInt) (a2u : a2.toInt ≤ 39) (hw : WT h.2.1 ≤ ct h.2.1 109) : Mt l yX8_reachAll cX8_reachAll 3 none (d + 3) [.ref 70, .int a2] h 0 0 (fun r h' => r = none ∧ Iv P h' ∧ (PH h.2.1 h'.2.1) ∧ (FX KAr h h')) := by
  refine Mt_iv hv (by decide) (Nat.le_of_ble_eq_true rfl) ?_
  show Go l RX8 cX8_reachAll 3 (g_rm (d + 3) 0 0) "reachAll" none 117 0 0 (fun _ _ => True) (fun r h' => r = none ∧ Iv P h' ∧ (PH h.2.1 h'.2.1) ∧ (FX KAr h h')) 0 0 [(0, .ref 70), (1, .int a2)] [] h
  have fx : FX KAr h h := FX.rfl
  have key : ∀ n : Nat, (∀ (l1 : Int32) (l2 : Int32) (hx : HP), Iv P hx → 0 ≤ l1.toInt → l1.toInt ≤ 39 → 0 ≤ l2.toInt → l2.toInt ≤ 13 → (PH h.2.1 hx.2.1) → FX KAr h hx → (3 * (13 - l2.toInt) + 2 : Int) < n → Go l RX8 cX8_reachAll 3 (g_rm (d + 3) 0 0) "reachAll" none 117 0 0 (fun _ _ => True) (fun r h' => r = none ∧ Iv P h' ∧ (PH h.2.1 h'.2.1) ∧ (FX KAr h h')) 0 2 [(0, .ref 70), (1, .int l1), (2, .int l2)] [] hx) := by
    intro n
    induction n with
    | zero => exact (by intros; omega)
    | succ n ih =>
      refine ?_
      ·
        intro l1 l2 hx hvx l1l l1u l2l l2u x0 fxx hm
        refine go_iload_n (pc := 2) rfl dX8_reachAll_2 ?_
        refine go_aload_n (pc := 3) rfl dX8_reachAll_3 ?_
        refine go_iload_n (pc := 4) rfl dX8_reachAll_4 ?_
        refine go_invV (pc := 5) (sl := 0) (s_X8_kindAt l (d + 0) hvx l1 (by rw [show (l1 : Int32).toInt = l1.toInt from (ti_rfl l1)]; omega) (by rw [show (l1 : Int32).toInt = l1.toInt from (ti_rfl l1)]; omega)) mL_X8_271 iM_X8_kindAt sM_X8_kindAt (hvx.sh rfl) rfl rfl rfl (Nat.le_of_ble_eq_true rfl) (show d + 0 + 2 + 1 ≤ d + 3 by omega) (show 8 + (2 + 11) + 40 * (d + 0 + 2) ≤ 40 * (d + 3) by omega) (g_c0 hvx.ln) (Nat.le_of_ble_eq_true rfl) dX8_reachAll_5 ?_
        intro r h1 hq _
        obtain ⟨v3, rfl, v3l, v3u, rfl, f2⟩ := hq
        refine go_iconst (pc := 8) (v := 1) (by decide) dX8_reachAll_8 ?_
        refine gf_icmp_ne (pc := 9) (tgt := 17) (ti_rfl v3) (ti_c (v := 1) (a := 1) (by decide)) (by decide) dX8_reachAll_9 (fun q4 => ?_) (fun q4 => ?_)
        ·
          refine go_iconst (pc := 17) (v := 1) (by decide) dX8_reachAll_17 ?_
          refine gf_icmp_ge (pc := 18) (tgt := 36) (ti_rfl l2) (ti_c (v := 1) (a := 1) (by decide)) (by decide) dX8_reachAll_18 (fun q5 => ?_) (fun q5 => ?_)
          ·
            exact gi_vret (pc := 36) ⟨rfl, hvx, x0, fxx⟩ hvx dX8_reachAll_36
          ·
            refine go_aload_n (pc := 21) rfl dX8_reachAll_21 ?_
            refine go_iload_n (pc := 22) rfl dX8_reachAll_22 ?_
            refine go_iload_n (pc := 23) rfl dX8_reachAll_23 ?_
            refine go_invS (pc := 24) (sl := 0) (s_X8_statementPlace l (d + 1) hvx l1 (by rw [show (l1 : Int32).toInt = l1.toInt from (ti_rfl l1)]; omega) (by rw [show (l1 : Int32).toInt = l1.toInt from (ti_rfl l1)]; omega) l2 (by rw [show (l2 : Int32).toInt = l2.toInt from (ti_rfl l2)]; omega) (by rw [show (l2 : Int32).toInt = l2.toInt from (ti_rfl l2)]; omega)) mL_X8_291 iM_X8_statementPlace rfl rfl (Nat.le_of_ble_eq_true rfl) (show d + 1 + 1 + 1 ≤ d + 3 by omega) (show 8 + (2 + 11) + 40 * (d + 1 + 1) ≤ 40 * (d + 3) by omega) (g_c0 hvx.ln) (Nat.le_of_ble_eq_true rfl) dX8_reachAll_24 ?_
            intro r h6 hq _
            obtain ⟨v7, rfl, v7l, v7u, rfl⟩ := hq
            refine go_invV (pc := 27) (sl := 0) (s_X8_reach_f l (d + 0) hvx v7 (by rw [show (v7 : Int32).toInt = v7.toInt from (ti_rfl v7)]; omega) (by rw [show (v7 : Int32).toInt = v7.toInt from (ti_rfl v7)]; omega) x0.1) mL_X8_347 iM_X8_reach sM_X8_reach (hvx.sh rfl) rfl rfl rfl (Nat.le_of_ble_eq_true rfl) (show d + 0 + 2 + 1 ≤ d + 3 by omega) (show 8 + (2 + 11) + 40 * (d + 0 + 2) ≤ 40 * (d + 3) by omega) (g_c0 hvx.ln) (Nat.le_of_ble_eq_true rfl) dX8_reachAll_27 ?_
            intro r h8 hq _
            obtain ⟨rfl, hv8, f9, f10⟩ := hq
            have fx8 : FX KAr h h8 := FX.tr fxx f10
            have ph11s := (RC.ph f9 (by omega) (by omega) x0.1)
            have ph11c := ph11s.2.1
            have ph11 : PH h.2.1 h8.2.1 := x0.trans ph11s
            have ph11a := ph11.1
            have ph11b := ph11.2.1
            refine gf_iinc (pc := 30) (Nat.le_of_ble_eq_true rfl) rfl (ti_rfl l2) (ti_c (by decide)) (by omega) (by omega) dX8_reachAll_30 (fun v12 e13 => ?_)
            refine go_lv (lv2 := [(0, .ref 70), (1, .int l1), (2, .int v12)]) rfl ?_
            refine go_goto (pc := 33) (tgt := 2) (by decide) dX8_reachAll_33 ?_
            have z14 : (v12 : Int32).toInt = (l2.toInt + 1) := e13
            exact go_lv rfl (ih l1 v12 h8 hv8 (by omega) (by omega) (by omega) (by omega) ph11 fx8 (by omega))
        ·
          refine go_bipush (pc := 12) (v := 13) (by decide) dX8_reachAll_12 ?_
          refine go_goto (pc := 14) (tgt := 18) (by decide) dX8_reachAll_14 ?_
          refine gf_icmp_ge (pc := 18) (tgt := 36) (ti_rfl l2) (ti_c (v := 13) (a := 13) (by decide)) (by decide) dX8_reachAll_18 (fun q15 => ?_) (fun q15 => ?_)
          ·
            exact gi_vret (pc := 36) ⟨rfl, hvx, x0, fxx⟩ hvx dX8_reachAll_36
          ·
            refine go_aload_n (pc := 21) rfl dX8_reachAll_21 ?_
            refine go_iload_n (pc := 22) rfl dX8_reachAll_22 ?_
            refine go_iload_n (pc := 23) rfl dX8_reachAll_23 ?_
            refine go_invS (pc := 24) (sl := 0) (s_X8_statementPlace l (d + 1) hvx l1 (by rw [show (l1 : Int32).toInt = l1.toInt from (ti_rfl l1)]; omega) (by rw [show (l1 : Int32).toInt = l1.toInt from (ti_rfl l1)]; omega) l2 (by rw [show (l2 : Int32).toInt = l2.toInt from (ti_rfl l2)]; omega) (by rw [show (l2 : Int32).toInt = l2.toInt from (ti_rfl l2)]; omega)) mL_X8_291 iM_X8_statementPlace rfl rfl (Nat.le_of_ble_eq_true rfl) (show d + 1 + 1 + 1 ≤ d + 3 by omega) (show 8 + (2 + 11) + 40 * (d + 1 + 1) ≤ 40 * (d + 3) by omega) (g_c0 hvx.ln) (Nat.le_of_ble_eq_true rfl) dX8_reachAll_24 ?_
            intro r h16 hq _
            obtain ⟨v17, rfl, v17l, v17u, rfl⟩ := hq
            refine go_invV (pc := 27) (sl := 0) (s_X8_reach_f l (d + 0) hvx v17 (by rw [show (v17 : Int32).toInt = v17.toInt from (ti_rfl v17)]; omega) (by rw [show (v17 : Int32).toInt = v17.toInt from (ti_rfl v17)]; omega) x0.1) mL_X8_347 iM_X8_reach sM_X8_reach (hvx.sh rfl) rfl rfl rfl (Nat.le_of_ble_eq_true rfl) (show d + 0 + 2 + 1 ≤ d + 3 by omega) (show 8 + (2 + 11) + 40 * (d + 0 + 2) ≤ 40 * (d + 3) by omega) (g_c0 hvx.ln) (Nat.le_of_ble_eq_true rfl) dX8_reachAll_27 ?_
            intro r h18 hq _
            obtain ⟨rfl, hv18, f19, f20⟩ := hq
            have fx18 : FX KAr h h18 := FX.tr fxx f20
            have ph21s := (RC.ph f19 (by omega) (by omega) x0.1)
            have ph21c := ph21s.2.1
            have ph21 : PH h.2.1 h18.2.1 := x0.trans ph21s
            have ph21a := ph21.1
            have ph21b := ph21.2.1
            refine gf_iinc (pc := 30) (Nat.le_of_ble_eq_true rfl) rfl (ti_rfl l2) (ti_c (by decide)) (by omega) (by omega) dX8_reachAll_30 (fun v22 e23 => ?_)
            refine go_lv (lv2 := [(0, .ref 70), (1, .int l1), (2, .int v22)]) rfl ?_
            refine go_goto (pc := 33) (tgt := 2) (by decide) dX8_reachAll_33 ?_
            have z24 : (v22 : Int32).toInt = (l2.toInt + 1) := e23
            exact go_lv rfl (ih l1 v22 h18 hv18 (by omega) (by omega) (by omega) (by omega) ph21 fx18 (by omega))
  have ph0 : PH h.2.1 h.2.1 := PH.rfl hw
  refine go_iconst (pc := 0) (v := 0) (by decide) dX8_reachAll_0 ?_
  refine go_istore_n (pc := 1) (Nat.le_of_ble_eq_true rfl) dX8_reachAll_1 (go_lv (lv2 := [(0, .ref 70), (1, .int a2), (2, .int 0)]) rfl ?_)
  have z25 : (0 : Int32).toInt = 0 := (ti_c (v := 0) (a := 0) (by decide))
  exact go_lv rfl ((key 58) a2 0 h hv (by omega) (by omega) (by omega) (by omega) ph0 fx (by omega))
