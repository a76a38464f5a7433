
set_option maxHeartbeats 4000000 in
set_option maxRecDepth 100000 in
theorem s_X8_summary_f (l : Launch) (d : Nat) {P : PP} {h : HP} (hv : Iv P h) (a2 : Int32) (a3 : Int32) (a4 : Int32) (ck : CK P) : Mt l yX8_summary cX8_summary 4 (some .boolean) (d + 3) [.ref 70, .int a2, .int a3, .int a4] h 0 0 (fun r h' => ∃ v : Int32, r = some (.int v) ∧ 0 ≤ v.toInt ∧ v.toInt ≤ 1 ∧ Iv (gs P) h' ∧ (FX KAr h h')) := by
  refine Mt_iv hv (by decide) (Nat.le_of_ble_eq_true rfl) ?_
  show Go l RX8 cX8_summary 4 (g_rm (d + 3) 0 0) "summary" (some .boolean) 117 0 0 (fun _ _ => True) (fun r h' => ∃ v : Int32, r = some (.int v) ∧ 0 ≤ v.toInt ∧ v.toInt ≤ 1 ∧ Iv (gs P) h' ∧ (FX KAr h h')) 0 0 [(0, .ref 70), (1, .int a2), (2, .int a3), (3, .int a4)] [] h
  have fx : FX KAr h h := FX.rfl
  have key : ∀ n : Nat, (∀  (hx : HP), Iv (gs P) hx → FX KAr h hx → (1 : Int) < n → Go l RX8 cX8_summary 4 (g_rm (d + 3) 0 0) "summary" (some .boolean) 117 0 0 (fun _ _ => True) (fun r h' => ∃ v : Int32, r = some (.int v) ∧ 0 ≤ v.toInt ∧ v.toInt ≤ 1 ∧ Iv (gs P) h' ∧ (FX KAr h h')) 0 43 [] [] hx) ∧ (∀ (s0 : Int32) (hx : HP), Iv (gs P) hx → 0 ≤ s0.toInt → s0.toInt ≤ 1 → FX KAr h hx → (2 : Int) < n → Go l RX8 cX8_summary 4 (g_rm (d + 3) 0 0) "summary" (some .boolean) 117 0 0 (fun _ _ => True) (fun r h' => ∃ v : Int32, r = some (.int v) ∧ 0 ≤ v.toInt ∧ v.toInt ≤ 1 ∧ Iv (gs P) h' ∧ (FX KAr h h')) 0 78 [] [.int s0] hx) := by
    intro n
    induction n with
    | zero => exact ⟨(by intros; omega), (by intros; omega)⟩
    | succ n ih =>
      refine ⟨?_, ?_⟩
      ·
        intro hx hvx fxx hm
        refine go_iconst (pc := 43) (v := 0) (by decide) dX8_summary_43 ?_
        exact gi_zret (pc := 44) (ti_c (v := 0) (a := 0) (by decide)) (by omega) (by omega) ⟨_, rfl, (by rw [show (0 : Int32).toInt = 0 from (ti_c (v := 0) (a := 0) (by decide))]; omega), (by rw [show (0 : Int32).toInt = 0 from (ti_c (v := 0) (a := 0) (by decide))]; omega), hvx, fxx⟩ hvx dX8_summary_44
      ·
        intro s0 hx hvx s0l s0u fxx hm
        exact gi_zret (pc := 78) (ti_rfl s0) (by omega) (by omega) ⟨_, rfl, (by rw [show (s0 : Int32).toInt = s0.toInt from (ti_rfl s0)]; omega), (by rw [show (s0 : Int32).toInt = s0.toInt from (ti_rfl s0)]; omega), hvx, fxx⟩ hvx dX8_summary_78
  refine go_aload_n (pc := 0) rfl dX8_summary_0 ?_
  refine go_aload_n (pc := 1) rfl dX8_summary_1 ?_
  refine gi_get (pc := 2) (lo := 0) (hi := 1) hv fL_X8_228 rfl (Nat.le_of_ble_eq_true rfl) rfl rfl dX8_summary_2 (fun v1 v1l v1u v1w => ?_)
  refine gi_putS (pc := 5) hv v1w (fP_X8_187 _) dX8_summary_5 (fun h2 hv2 hv2e => ?_)
  have fx2 : FX KAr h h2 := FX.pI fx hv2e (by unfold KAr; omega)
  refine go_aload_n (pc := 8) rfl dX8_summary_8 ?_
  refine go_iload_n (pc := 9) rfl dX8_summary_9 ?_
  refine go_invV (pc := 10) (sl := 0) (s_X8_isStatement l (d + 0) hv2 a2) mL_X8_389 iM_X8_isStatement sM_X8_isStatement (hv2.sh rfl) rfl rfl rfl (Nat.le_of_ble_eq_true rfl) (show d + 0 + 2 + 1 ≤ d + 3 by omega) (show 8 + (2 + 11) + 40 * (d + 0 + 2) ≤ 40 * (d + 3) by omega) (g_c0 hv2.ln) (Nat.le_of_ble_eq_true rfl) dX8_summary_10 ?_
  intro r h3 hq _
  obtain ⟨v4, rfl, v4l, v4u, rfl, f5⟩ := hq
  refine gf_if_eq (pc := 13) (tgt := 43) (ti_rfl v4) (by decide) dX8_summary_13 (fun q6 => ?_) (fun q6 => ?_)
  ·
    exact go_lv rfl ((key 15).1  h2 hv2 fx2 (by omega))
  ·
    refine go_aload_n (pc := 16) rfl dX8_summary_16 ?_
    refine go_iload_n (pc := 17) rfl dX8_summary_17 ?_
    refine go_invV (pc := 18) (sl := 0) (s_X8_kindAt l (d + 0) hv2 a2 (by rw [show (a2 : Int32).toInt = a2.toInt from (ti_rfl a2)]; omega) (by rw [show (a2 : Int32).toInt = a2.toInt from (ti_rfl a2)]; omega)) mL_X8_271 iM_X8_kindAt sM_X8_kindAt (hv2.sh rfl) rfl rfl rfl (Nat.le_of_ble_eq_true rfl) (show d + 0 + 2 + 1 ≤ d + 3 by omega) (show 8 + (2 + 11) + 40 * (d + 0 + 2) ≤ 40 * (d + 3) by omega) (g_c0 hv2.ln) (Nat.le_of_ble_eq_true rfl) dX8_summary_18 ?_
    intro r h7 hq _
    obtain ⟨v9, rfl, v9l, v9u, rfl, f8⟩ := hq
    refine go_iconst (pc := 21) (v := 1) (by decide) dX8_summary_21 ?_
    refine gf_icmp_ne (pc := 22) (tgt := 43) (ti_rfl v9) (ti_c (v := 1) (a := 1) (by decide)) (by decide) dX8_summary_22 (fun q10 => ?_) (fun q10 => ?_)
    ·
      exact go_lv rfl ((key 15).1  h2 hv2 fx2 (by omega))
    ·
      refine go_iload_n (pc := 25) rfl dX8_summary_25 ?_
      refine go_iconst (pc := 26) (v := 0) (by decide) dX8_summary_26 ?_
      refine go_iconst (pc := 27) (v := 5) (by decide) dX8_summary_27 ?_
      refine go_invS (pc := 28) (sl := 0) (s_X8_isIn_f l (d + 1) hv2 a3 0 5) mL_X8_159 iM_X8_isIn rfl rfl (Nat.le_of_ble_eq_true rfl) (show d + 1 + 1 + 1 ≤ d + 3 by omega) (show 8 + (3 + 11) + 40 * (d + 1 + 1) ≤ 40 * (d + 3) by omega) (g_c0 hv2.ln) (Nat.le_of_ble_eq_true rfl) dX8_summary_28 ?_
      intro r h11 hq _
      obtain ⟨v15, rfl, v15l, v15u, rfl, f12, f13, f14⟩ := hq
      try rw [show (0 : Int32).toInt = 0 from (ti_c (v := 0) (a := 0) (by decide))] at f12
      try rw [show (5 : Int32).toInt = 5 from (ti_c (v := 5) (a := 5) (by decide))] at f12
      try rw [show (0 : Int32).toInt = 0 from (ti_c (v := 0) (a := 0) (by decide))] at f13
      try rw [show (5 : Int32).toInt = 5 from (ti_c (v := 5) (a := 5) (by decide))] at f13
      try rw [show (0 : Int32).toInt = 0 from (ti_c (v := 0) (a := 0) (by decide))] at f14
      try rw [show (5 : Int32).toInt = 5 from (ti_c (v := 5) (a := 5) (by decide))] at f14
      refine gf_if_eq (pc := 31) (tgt := 43) (ti_rfl v15) (by decide) dX8_summary_31 (fun q16 => ?_) (fun q16 => ?_)
      ·
        exact go_lv rfl ((key 15).1  h2 hv2 fx2 (by omega))
      ·
        refine go_iload_n (pc := 34) rfl dX8_summary_34 ?_
        refine go_iconst (pc := 35) (v := 0) (by decide) dX8_summary_35 ?_
        refine go_iconst (pc := 36) (v := 5) (by decide) dX8_summary_36 ?_
        refine go_invS (pc := 37) (sl := 0) (s_X8_isIn_f l (d + 1) hv2 a4 0 5) mL_X8_159 iM_X8_isIn rfl rfl (Nat.le_of_ble_eq_true rfl) (show d + 1 + 1 + 1 ≤ d + 3 by omega) (show 8 + (3 + 11) + 40 * (d + 1 + 1) ≤ 40 * (d + 3) by omega) (g_c0 hv2.ln) (Nat.le_of_ble_eq_true rfl) dX8_summary_37 ?_
        intro r h17 hq _
        obtain ⟨v21, rfl, v21l, v21u, rfl, f18, f19, f20⟩ := hq
        try rw [show (0 : Int32).toInt = 0 from (ti_c (v := 0) (a := 0) (by decide))] at f18
        try rw [show (5 : Int32).toInt = 5 from (ti_c (v := 5) (a := 5) (by decide))] at f18
        try rw [show (0 : Int32).toInt = 0 from (ti_c (v := 0) (a := 0) (by decide))] at f19
        try rw [show (5 : Int32).toInt = 5 from (ti_c (v := 5) (a := 5) (by decide))] at f19
        try rw [show (0 : Int32).toInt = 0 from (ti_c (v := 0) (a := 0) (by decide))] at f20
        try rw [show (5 : Int32).toInt = 5 from (ti_c (v := 5) (a := 5) (by decide))] at f20
        refine gf_if_ne (pc := 40) (tgt := 45) (ti_rfl v21) (by decide) dX8_summary_40 (fun q22 => ?_) (fun q22 => ?_)
        ·
          refine go_aload_n (pc := 45) rfl dX8_summary_45 ?_
          refine gi_getF (pc := 46) (q := 108) hv2 fL_X8_124 rfl (Nat.le_of_ble_eq_true rfl) rfl (hv2.rf (by decide)) dX8_summary_46 ?_
          refine go_bipush (pc := 49) (v := 6) (by decide) dX8_summary_49 ?_
          refine go_aload_n (pc := 51) rfl dX8_summary_51 ?_
          refine gi_getF (pc := 52) (q := 84) hv2 fL_X8_50 rfl (Nat.le_of_ble_eq_true rfl) rfl (hv2.rf (by decide)) dX8_summary_52 ?_
          refine go_aload_n (pc := 55) rfl dX8_summary_55 ?_
          refine go_iload_n (pc := 56) rfl dX8_summary_56 ?_
          refine go_invV (pc := 57) (sl := 0) (s_X8_item l (d + 1) hv2 a2 (by rw [show (a2 : Int32).toInt = a2.toInt from (ti_rfl a2)]; omega) (by rw [show (a2 : Int32).toInt = a2.toInt from (ti_rfl a2)]; omega)) mL_X8_268 iM_X8_item sM_X8_item (hv2.sh rfl) rfl rfl rfl (Nat.le_of_ble_eq_true rfl) (show d + 1 + 1 + 1 ≤ d + 3 by omega) (show 8 + (2 + 11) + 40 * (d + 1 + 1) ≤ 40 * (d + 3) by omega) (g_c0 hv2.ln) (Nat.le_of_ble_eq_true rfl) dX8_summary_57 ?_
          intro r h23 hq _
          obtain ⟨v25, rfl, v25l, v25u, rfl, f24⟩ := hq
          refine gi_iald (pc := 60) (lo := -2) (hi := 4) (len := 260) hv2 (ti_rfl v25) rfl (by omega) (by omega) (fun _ => rfl) dX8_summary_60 (fun v26 v26l v26u v26w => ?_)
          have k27 : 0 ≤ v26.toInt := by
            rw [v26w]
            refine hv2.mc ck.gs ?_
            rw [f24]
            have e := f8
            unfold g_kd at e
            omega
          refine gf_imul (pc := 61) (ti_c (v := 6) (a := 6) (by decide)) (ti_rfl v26) (by omega) (by omega) dX8_summary_61 (fun v28 e29 => ?_)
          refine go_iload_n (pc := 62) rfl dX8_summary_62 ?_
          refine gf_iadd (pc := 63) e29 (ti_rfl a4) (by omega) (by omega) dX8_summary_63 (fun v30 e31 => ?_)
          refine gi_iald (pc := 64) (lo := -2147483648) (hi := 2147483647) (len := 30) hv2 e31 rfl (by omega) (by omega) (fun _ => rfl) dX8_summary_64 (fun v32 v32l v32u v32w => ?_)
          refine go_iload_n (pc := 65) rfl dX8_summary_65 ?_
          refine gu_ishr (pc := 66) dX8_summary_66 (fun v33 => ?_)
          refine go_iconst (pc := 67) (v := 1) (by decide) dX8_summary_67 ?_
          refine gf_iand (pc := 68) (ti_c (v := 1) (a := 1) (by decide)) (by omega) dX8_summary_68 (fun v34 v34l v34u => ?_)
          refine go_iconst (pc := 69) (v := 1) (by decide) dX8_summary_69 ?_
          refine gf_icmp_ne (pc := 70) (tgt := 77) (ti_rfl v34) (ti_c (v := 1) (a := 1) (by decide)) (by decide) dX8_summary_70 (fun q35 => ?_) (fun q35 => ?_)
          ·
            refine go_iconst (pc := 77) (v := 0) (by decide) dX8_summary_77 ?_
            have z36 : (0 : Int32).toInt = 0 := (ti_c (v := 0) (a := 0) (by decide))
            exact go_lv rfl ((key 15).2 0 h2 hv2 (by omega) (by omega) fx2 (by omega))
          ·
            refine go_iconst (pc := 73) (v := 1) (by decide) dX8_summary_73 ?_
            refine go_goto (pc := 74) (tgt := 78) (by decide) dX8_summary_74 ?_
            have z37 : (1 : Int32).toInt = 1 := (ti_c (v := 1) (a := 1) (by decide))
            exact go_lv rfl ((key 15).2 1 h2 hv2 (by omega) (by omega) fx2 (by omega))
        ·
          exact go_lv rfl ((key 15).1  h2 hv2 fx2 (by omega))
set_option maxHeartbeats 4000000 in
set_option maxRecDepth 100000 in
theorem s_X8_ends_f (l : Launch) (d : Nat) {P : PP} {h : HP} (hv : Iv P h) (a2 : Int32) (a2l : 0 ≤ a2.toInt) (a2u : a2.toInt ≤ 39) (ck : CK P) : Mt l yX8_ends cX8_ends 6 none (d + 4) [.ref 70, .int a2] h 0 0 (fun r h' => r = none ∧ Iv P h' ∧ (FX KAr h h')) := by
  refine Mt_iv hv (by decide) (Nat.le_of_ble_eq_true rfl) ?_
  show Go l RX8 cX8_ends 6 (g_rm (d + 4) 0 0) "ends" none 117 0 0 (fun _ _ => True) (fun r h' => r = none ∧ Iv P h' ∧ (FX KAr h h')) 0 0 [(0, .ref 70), (1, .int a2)] [] h
  have fx : FX KAr h h := FX.rfl
  have key : ∀ n : Nat, (∀ (l1 : Int32) (l2 : Int32) (hx : HP), Iv P hx → 0 ≤ l1.toInt → l1.toInt ≤ 39 → 0 ≤ l2.toInt → l2.toInt ≤ 4 → FX KAr h hx → (11 : Int) < n → Go l RX8 cX8_ends 6 (g_rm (d + 4) 0 0) "ends" none 117 0 0 (fun _ _ => True) (fun r h' => r = none ∧ Iv P h' ∧ (FX KAr h h')) 0 46 [(0, .ref 70), (1, .int l1), (2, .int l2)] [] hx) ∧ (∀ (l1 : Int32) (l2 : Int32) (s0 : Int32) (hx : HP), Iv P hx → 0 ≤ l1.toInt → l1.toInt ≤ 39 → 0 ≤ l2.toInt → l2.toInt ≤ 4 → 0 ≤ s0.toInt → s0.toInt ≤ 1 → FX KAr h hx → (10 : Int) < n → Go l RX8 cX8_ends 6 (g_rm (d + 4) 0 0) "ends" none 117 0 0 (fun _ _ => True) (fun r h' => r = none ∧ Iv P h' ∧ (FX KAr h h')) 0 47 [(0, .ref 70), (1, .int l1), (2, .int l2)] [.int s0] hx) ∧ (∀ (l1 : Int32) (l2 : Int32) (l3 : Int32) (hx : HP), Iv P hx → 0 ≤ l1.toInt → l1.toInt ≤ 39 → 0 ≤ l2.toInt → l2.toInt ≤ 4 → 0 ≤ l3.toInt → l3.toInt ≤ 1 → FX KAr h hx → (8 : Int) < n → Go l RX8 cX8_ends 6 (g_rm (d + 4) 0 0) "ends" none 117 0 0 (fun _ _ => True) (fun r h' => r = none ∧ Iv P h' ∧ (FX KAr h h')) 0 70 [(0, .ref 70), (1, .int l1), (2, .int l2), (3, .int l3)] [] hx) ∧ (∀ (l1 : Int32) (l2 : Int32) (l3 : Int32) (hx : HP), Iv P hx → 0 ≤ l1.toInt → l1.toInt ≤ 39 → 0 ≤ l2.toInt → l2.toInt ≤ 4 → 0 ≤ l3.toInt → l3.toInt ≤ 1 → FX KAr h hx → (9 : Int) < n → Go l RX8 cX8_ends 6 (g_rm (d + 4) 0 0) "ends" none 117 0 0 (fun _ _ => True) (fun r h' => r = none ∧ Iv P h' ∧ (FX KAr h h')) 0 74 [(0, .ref 70), (1, .int l1), (2, .int l2), (3, .int l3)] [] hx) ∧ (∀ (l1 : Int32) (l2 : Int32) (l3 : Int32) (s0 : Int32) (hx : HP), Iv P hx → 0 ≤ l1.toInt → l1.toInt ≤ 39 → 0 ≤ l2.toInt → l2.toInt ≤ 4 → 0 ≤ l3.toInt → l3.toInt ≤ 1 → 0 ≤ s0.toInt → s0.toInt ≤ 1 → FX KAr h hx → (7 : Int) < n → Go l RX8 cX8_ends 6 (g_rm (d + 4) 0 0) "ends" none 117 0 0 (fun _ _ => True) (fun r h' => r = none ∧ Iv P h' ∧ (FX KAr h h')) 0 75 [(0, .ref 70), (1, .int l1), (2, .int l2), (3, .int l3)] [.int s0] hx) ∧ (∀ (l1 : Int32) (l2 : Int32) (l4 : Int32) (hx : HP), Iv P hx → 0 ≤ l1.toInt → l1.toInt ≤ 39 → 0 ≤ l2.toInt → l2.toInt ≤ 4 → 0 ≤ l4.toInt → l4.toInt ≤ 1 → FX KAr h hx → (6 : Int) < n → Go l RX8 cX8_ends 6 (g_rm (d + 4) 0 0) "ends" none 117 0 0 (fun _ _ => True) (fun r h' => r = none ∧ Iv P h' ∧ (FX KAr h h')) 0 93 [(0, .ref 70), (1, .int l1), (2, .int l2), (4, .int l4)] [] hx) ∧ (∀ (l1 : Int32) (l2 : Int32) (l4 : Int32) (s0 : Int32) (hx : HP), Iv P hx → 0 ≤ l1.toInt → l1.toInt ≤ 39 → 0 ≤ l2.toInt → l2.toInt ≤ 4 → 0 ≤ l4.toInt → l4.toInt ≤ 1 → 0 ≤ s0.toInt → s0.toInt ≤ 1 → FX KAr h hx → (5 : Int) < n → Go l RX8 cX8_ends 6 (g_rm (d + 4) 0 0) "ends" none 117 0 0 (fun _ _ => True) (fun r h' => r = none ∧ Iv P h' ∧ (FX KAr h h')) 0 94 [(0, .ref 70), (1, .int l1), (2, .int l2), (4, .int l4)] [.int s0] hx) ∧ (∀ (l1 : Int32) (l2 : Int32) (l4 : Int32) (l5 : Int32) (hx : HP), Iv P hx → 0 ≤ l1.toInt → l1.toInt ≤ 39 → 0 ≤ l2.toInt → l2.toInt ≤ 4 → 0 ≤ l4.toInt → l4.toInt ≤ 1 → 0 ≤ l5.toInt → l5.toInt ≤ 1 → FX KAr h hx → (4 : Int) < n → Go l RX8 cX8_ends 6 (g_rm (d + 4) 0 0) "ends" none 117 0 0 (fun _ _ => True) (fun r h' => r = none ∧ Iv P h' ∧ (FX KAr h h')) 0 116 [(0, .ref 70), (1, .int l1), (2, .int l2), (4, .int l4), (5, .int l5)] [] hx) ∧ (∀ (l1 : Int32) (l2 : Int32) (l4 : Int32) (l5 : Int32) (hx : HP), Iv P hx → 0 ≤ l1.toInt → l1.toInt ≤ 39 → 0 ≤ l2.toInt → l2.toInt ≤ 4 → 0 ≤ l4.toInt → l4.toInt ≤ 1 → 0 ≤ l5.toInt → l5.toInt ≤ 1 → FX KAr h hx → (3 : Int) < n → Go l RX8 cX8_ends 6 (g_rm (d + 4) 0 0) "ends" none 117 0 0 (fun _ _ => True) (fun r h' => r = none ∧ Iv P h' ∧ (FX KAr h h')) 0 137 [(0, .ref 70), (1, .int l1), (2, .int l2), (4, .int l4), (5, .int l5)] [] hx) ∧ (∀ (l1 : Int32) (l2 : Int32) (l5 : Int32) (hx : HP), Iv P hx → 0 ≤ l1.toInt → l1.toInt ≤ 39 → 0 ≤ l2.toInt → l2.toInt ≤ 4 → 0 ≤ l5.toInt → l5.toInt ≤ 1 → FX KAr h hx → (2 : Int) < n → Go l RX8 cX8_ends 6 (g_rm (d + 4) 0 0) "ends" none 117 0 0 (fun _ _ => True) (fun r h' => r = none ∧ Iv P h' ∧ (FX KAr h h')) 0 174 [(0, .ref 70), (1, .int l1), (2, .int l2), (5, .int l5)] [] hx) ∧ (∀  (hx : HP), Iv P hx → FX KAr h hx → (1 : Int) < n → Go l RX8 cX8_ends 6 (g_rm (d + 4) 0 0) "ends" none 117 0 0 (fun _ _ => True) (fun r h' => r = none ∧ Iv P h' ∧ (FX KAr h h')) 0 195 [] [] hx) := by
    intro n
    induction n with
    | zero => exact ⟨(by intros; omega), (by intros; omega), (by intros; omega), (by intros; omega), (by intros; omega), (by intros; omega), (by intros; omega), (by intros; omega), (by intros; omega), (by intros; omega), (by intros; omega)⟩
    | succ n ih =>
      refine ⟨?_, ?_, ?_, ?_, ?_, ?_, ?_, ?_, ?_, ?_, ?_⟩
      ·
        intro l1 l2 hx hvx l1l l1u l2l l2u fxx hm
        refine go_iconst (pc := 46) (v := 0) (by decide) dX8_ends_46 ?_
        have z1 : (0 : Int32).toInt = 0 := (ti_c (v := 0) (a := 0) (by decide))
        exact go_lv rfl (ih.2.1 l1 l2 0 hx hvx (by omega) (by omega) (by omega) (by omega) (by omega) (by omega) fxx (by omega))
      ·
        intro l1 l2 s0 hx hvx l1l l1u l2l l2u s0l s0u fxx hm
        refine go_istore_n (pc := 47) (Nat.le_of_ble_eq_true rfl) dX8_ends_47 (go_lv (lv2 := [(0, .ref 70), (1, .int l1), (2, .int l2), (3, .int s0)]) rfl ?_)
        refine go_aload_n (pc := 48) rfl dX8_ends_48 ?_
        refine go_iload_n (pc := 49) rfl dX8_ends_49 ?_
        refine go_invV (pc := 50) (sl := 0) (s_X8_kindAt l (d + 1) hvx l1 (by rw [show (l1 : Int32).toInt = l1.toInt from (ti_rfl l1)]; omega) (by rw [show (l1 : Int32).toInt = l1.toInt from (ti_rfl l1)]; omega)) mL_X8_271 iM_X8_kindAt sM_X8_kindAt (hvx.sh rfl) rfl rfl rfl (Nat.le_of_ble_eq_true rfl) (show d + 1 + 2 + 1 ≤ d + 4 by omega) (show 8 + (2 + 11) + 40 * (d + 1 + 2) ≤ 40 * (d + 4) by omega) (g_c0 hvx.ln) (Nat.le_of_ble_eq_true rfl) dX8_ends_50 ?_
        intro r h2 hq _
        obtain ⟨v4, rfl, v4l, v4u, rfl, f3⟩ := hq
        refine go_iconst (pc := 53) (v := 5) (by decide) dX8_ends_53 ?_
        refine gf_icmp_eq (pc := 54) (tgt := 70) (ti_rfl v4) (ti_c (v := 5) (a := 5) (by decide)) (by decide) dX8_ends_54 (fun q5 => ?_) (fun q5 => ?_)
        ·
          exact go_lv rfl (ih.2.2.1 l1 l2 s0 hx hvx (by omega) (by omega) (by omega) (by omega) (by omega) (by omega) fxx (by omega))
        ·
          refine go_aload_n (pc := 57) rfl dX8_ends_57 ?_
          refine go_iload_n (pc := 58) rfl dX8_ends_58 ?_
          refine go_invV (pc := 59) (sl := 0) (s_X8_kindAt l (d + 1) hvx l1 (by rw [show (l1 : Int32).toInt = l1.toInt from (ti_rfl l1)]; omega) (by rw [show (l1 : Int32).toInt = l1.toInt from (ti_rfl l1)]; omega)) mL_X8_271 iM_X8_kindAt sM_X8_kindAt (hvx.sh rfl) rfl rfl rfl (Nat.le_of_ble_eq_true rfl) (show d + 1 + 2 + 1 ≤ d + 4 by omega) (show 8 + (2 + 11) + 40 * (d + 1 + 2) ≤ 40 * (d + 4) by omega) (g_c0 hvx.ln) (Nat.le_of_ble_eq_true rfl) dX8_ends_59 ?_
          intro r h6 hq _
          obtain ⟨v8, rfl, v8l, v8u, rfl, f7⟩ := hq
          refine go_iconst (pc := 62) (v := 4) (by decide) dX8_ends_62 ?_
          refine gf_icmp_ne (pc := 63) (tgt := 74) (ti_rfl v8) (ti_c (v := 4) (a := 4) (by decide)) (by decide) dX8_ends_63 (fun q9 => ?_) (fun q9 => ?_)
          ·
            exact go_lv rfl (ih.2.2.2.1 l1 l2 s0 hx hvx (by omega) (by omega) (by omega) (by omega) (by omega) (by omega) fxx (by omega))
          ·
            refine go_iload_n (pc := 66) rfl dX8_ends_66 ?_
            refine gf_if_eq (pc := 67) (tgt := 74) (ti_rfl s0) (by decide) dX8_ends_67 (fun q10 => ?_) (fun q10 => ?_)
            ·
              exact go_lv rfl (ih.2.2.2.1 l1 l2 s0 hx hvx (by omega) (by omega) (by omega) (by omega) (by omega) (by omega) fxx (by omega))
            ·
              exact go_lv rfl (ih.2.2.1 l1 l2 s0 hx hvx (by omega) (by omega) (by omega) (by omega) (by omega) (by omega) fxx (by omega))
      ·
        intro l1 l2 l3 hx hvx l1l l1u l2l l2u l3l l3u fxx hm
        refine go_iconst (pc := 70) (v := 1) (by decide) dX8_ends_70 ?_
        refine go_goto (pc := 71) (tgt := 75) (by decide) dX8_ends_71 ?_
        have z11 : (1 : Int32).toInt = 1 := (ti_c (v := 1) (a := 1) (by decide))
        exact go_lv rfl (ih.2.2.2.2.1 l1 l2 l3 1 hx hvx (by omega) (by omega) (by omega) (by omega) (by omega) (by omega) (by omega) (by omega) fxx (by omega))
      ·
        intro l1 l2 l3 hx hvx l1l l1u l2l l2u l3l l3u fxx hm
        refine go_iconst (pc := 74) (v := 0) (by decide) dX8_ends_74 ?_
        have z12 : (0 : Int32).toInt = 0 := (ti_c (v := 0) (a := 0) (by decide))
        exact go_lv rfl (ih.2.2.2.2.1 l1 l2 l3 0 hx hvx (by omega) (by omega) (by omega) (by omega) (by omega) (by omega) (by omega) (by omega) fxx (by omega))
      ·
        intro l1 l2 l3 s0 hx hvx l1l l1u l2l l2u l3l l3u s0l s0u fxx hm
        refine go_istore (pc := 75) (Nat.le_of_ble_eq_true rfl) dX8_ends_75 (go_lv (lv2 := [(0, .ref 70), (1, .int l1), (2, .int l2), (3, .int l3), (4, .int s0)]) rfl ?_)
        refine go_aload_n (pc := 77) rfl dX8_ends_77 ?_
        refine go_iload_n (pc := 78) rfl dX8_ends_78 ?_
        refine go_invV (pc := 79) (sl := 0) (s_X8_isThrowing l (d + 0) hvx l1 (by rw [show (l1 : Int32).toInt = l1.toInt from (ti_rfl l1)]; omega) (by rw [show (l1 : Int32).toInt = l1.toInt from (ti_rfl l1)]; omega) ck) mL_X8_277 iM_X8_isThrowing sM_X8_isThrowing (hvx.sh rfl) rfl rfl rfl (Nat.le_of_ble_eq_true rfl) (show d + 0 + 3 + 1 ≤ d + 4 by omega) (show 8 + (2 + 11) + 40 * (d + 0 + 3) ≤ 40 * (d + 4) by omega) (g_c0 hvx.ln) (Nat.le_of_ble_eq_true rfl) dX8_ends_79 ?_
        intro r h13 hq _
        obtain ⟨v14, rfl, v14l, v14u, rfl⟩ := hq
        refine gf_if_eq (pc := 82) (tgt := 93) (ti_rfl v14) (by decide) dX8_ends_82 (fun q15 => ?_) (fun q15 => ?_)
        ·
          exact go_lv rfl (ih.2.2.2.2.2.1 l1 l2 s0 hx hvx (by omega) (by omega) (by omega) (by omega) (by omega) (by omega) fxx (by omega))
        ·
          refine go_iload_n (pc := 85) rfl dX8_ends_85 ?_
          refine gf_if_eq (pc := 86) (tgt := 93) (ti_rfl l3) (by decide) dX8_ends_86 (fun q16 => ?_) (fun q16 => ?_)
          ·
            exact go_lv rfl (ih.2.2.2.2.2.1 l1 l2 s0 hx hvx (by omega) (by omega) (by omega) (by omega) (by omega) (by omega) fxx (by omega))
          ·
            refine go_iconst (pc := 89) (v := 1) (by decide) dX8_ends_89 ?_
            refine go_goto (pc := 90) (tgt := 94) (by decide) dX8_ends_90 ?_
            have z17 : (1 : Int32).toInt = 1 := (ti_c (v := 1) (a := 1) (by decide))
            exact go_lv rfl (ih.2.2.2.2.2.2.1 l1 l2 s0 1 hx hvx (by omega) (by omega) (by omega) (by omega) (by omega) (by omega) (by omega) (by omega) fxx (by omega))
      ·
        intro l1 l2 l4 hx hvx l1l l1u l2l l2u l4l l4u fxx hm
        refine go_iconst (pc := 93) (v := 0) (by decide) dX8_ends_93 ?_
        have z18 : (0 : Int32).toInt = 0 := (ti_c (v := 0) (a := 0) (by decide))
        exact go_lv rfl (ih.2.2.2.2.2.2.1 l1 l2 l4 0 hx hvx (by omega) (by omega) (by omega) (by omega) (by omega) (by omega) (by omega) (by omega) fxx (by omega))
      ·
        intro l1 l2 l4 s0 hx hvx l1l l1u l2l l2u l4l l4u s0l s0u fxx hm
        refine go_istore (pc := 94) (Nat.le_of_ble_eq_true rfl) dX8_ends_94 (go_lv (lv2 := [(0, .ref 70), (1, .int l1), (2, .int l2), (4, .int l4), (5, .int s0)]) rfl ?_)
        refine go_iload (pc := 96) rfl dX8_ends_96 ?_
        refine gf_if_eq (pc := 98) (tgt := 116) (ti_rfl l4) (by decide) dX8_ends_98 (fun q19 => ?_) (fun q19 => ?_)
        ·
          exact go_lv rfl (ih.2.2.2.2.2.2.2.1 l1 l2 l4 s0 hx hvx (by omega) (by omega) (by omega) (by omega) (by omega) (by omega) (by omega) (by omega) fxx (by omega))
        ·
          refine go_aload_n (pc := 101) rfl dX8_ends_101 ?_
          refine go_iload_n (pc := 102) rfl dX8_ends_102 ?_
          refine go_bipush (pc := 103) (v := 7) (by decide) dX8_ends_103 ?_
          refine go_invS (pc := 105) (sl := 0) (s_X8_procedurePlace l (d + 2) hvx l2 (by rw [show (l2 : Int32).toInt = l2.toInt from (ti_rfl l2)]; omega) (by rw [show (l2 : Int32).toInt = l2.toInt from (ti_rfl l2)]; omega) 7 (by rw [show (7 : Int32).toInt = 7 from (ti_c (v := 7) (a := 7) (by decide))]; omega) (by rw [show (7 : Int32).toInt = 7 from (ti_c (v := 7) (a := 7) (by decide))]; omega)) mL_X8_300 iM_X8_procedurePlace rfl rfl (Nat.le_of_ble_eq_true rfl) (show d + 2 + 1 + 1 ≤ d + 4 by omega) (show 8 + (2 + 11) + 40 * (d + 2 + 1) ≤ 40 * (d + 4) by omega) (g_c0 hvx.ln) (Nat.le_of_ble_eq_true rfl) dX8_ends_105 ?_
          intro r h20 hq _
          obtain ⟨v21, rfl, v21l, v21u, rfl⟩ := hq
          refine go_iload_n (pc := 108) rfl dX8_ends_108 ?_
          refine go_iconst (pc := 109) (v := 0) (by decide) dX8_ends_109 ?_
          refine go_invS (pc := 110) (sl := 0) (s_X8_statementPlace l (d + 2) hvx l1 (by rw [show (l1 : Int32).toInt = l1.toInt from (ti_rfl l1)]; omega) (by rw [show (l1 : Int32).toInt = l1.toInt from (ti_rfl l1)]; omega) 0 (by rw [show (0 : Int32).toInt = 0 from (ti_c (v := 0) (a := 0) (by decide))]; omega) (by rw [show (0 : Int32).toInt = 0 from (ti_c (v := 0) (a := 0) (by decide))]; omega)) mL_X8_291 iM_X8_statementPlace rfl rfl (Nat.le_of_ble_eq_true rfl) (show d + 2 + 1 + 1 ≤ d + 4 by omega) (show 8 + (2 + 11) + 40 * (d + 2 + 1) ≤ 40 * (d + 4) by omega) (g_c0 hvx.ln) (Nat.le_of_ble_eq_true rfl) dX8_ends_110 ?_
          intro r h22 hq _
          obtain ⟨v23, rfl, v23l, v23u, rfl⟩ := hq
          refine go_invV (pc := 113) (sl := 0) (s_X8_hang_f l (d + 2) hvx v21 (by rw [show (v21 : Int32).toInt = v21.toInt from (ti_rfl v21)]; omega) (by rw [show (v21 : Int32).toInt = v21.toInt from (ti_rfl v21)]; omega) v23 (by rw [show (v23 : Int32).toInt = v23.toInt from (ti_rfl v23)]; omega) (by rw [show (v23 : Int32).toInt = v23.toInt from (ti_rfl v23)]; omega)) mL_X8_303 iM_X8_hang sM_X8_hang (hvx.sh rfl) rfl rfl rfl (Nat.le_of_ble_eq_true rfl) (show d + 2 + 1 + 1 ≤ d + 4 by omega) (show 8 + (3 + 11) + 40 * (d + 2 + 1) ≤ 40 * (d + 4) by omega) (g_c0 hvx.ln) (Nat.le_of_ble_eq_true rfl) dX8_ends_113 ?_
          intro r h24 hq _
          obtain ⟨rfl, hv24, f25⟩ := hq
          have fx24 : FX KAr h h24 := FX.tr fxx f25
          exact go_lv rfl (ih.2.2.2.2.2.2.2.1 l1 l2 l4 s0 h24 hv24 (by omega) (by omega) (by omega) (by omega) (by omega) (by omega) (by omega) (by omega) fx24 (by omega))
      ·
        intro l1 l2 l4 l5 hx hvx l1l l1u l2l l2u l4l l4u l5l l5u fxx hm
        refine go_iload (pc := 116) rfl dX8_ends_116 ?_
        refine gf_if_eq (pc := 118) (tgt := 137) (ti_rfl l5) (by decide) dX8_ends_118 (fun q26 => ?_) (fun q26 => ?_)
        ·
          exact go_lv rfl (ih.2.2.2.2.2.2.2.2.1 l1 l2 l4 l5 hx hvx (by omega) (by omega) (by omega) (by omega) (by omega) (by omega) (by omega) (by omega) fxx (by omega))
        ·
          refine go_aload_n (pc := 121) rfl dX8_ends_121 ?_
          refine go_iload_n (pc := 122) rfl dX8_ends_122 ?_
          refine go_bipush (pc := 123) (v := 7) (by decide) dX8_ends_123 ?_
          refine go_invS (pc := 125) (sl := 0) (s_X8_procedurePlace l (d + 2) hvx l2 (by rw [show (l2 : Int32).toInt = l2.toInt from (ti_rfl l2)]; omega) (by rw [show (l2 : Int32).toInt = l2.toInt from (ti_rfl l2)]; omega) 7 (by rw [show (7 : Int32).toInt = 7 from (ti_c (v := 7) (a := 7) (by decide))]; omega) (by rw [show (7 : Int32).toInt = 7 from (ti_c (v := 7) (a := 7) (by decide))]; omega)) mL_X8_300 iM_X8_procedurePlace rfl rfl (Nat.le_of_ble_eq_true rfl) (show d + 2 + 1 + 1 ≤ d + 4 by omega) (show 8 + (2 + 11) + 40 * (d + 2 + 1) ≤ 40 * (d + 4) by omega) (g_c0 hvx.ln) (Nat.le_of_ble_eq_true rfl) dX8_ends_125 ?_
          intro r h27 hq _
          obtain ⟨v28, rfl, v28l, v28u, rfl⟩ := hq
          refine go_iload_n (pc := 128) rfl dX8_ends_128 ?_
          refine go_bipush (pc := 129) (v := 7) (by decide) dX8_ends_129 ?_
          refine go_invS (pc := 131) (sl := 0) (s_X8_statementPlace l (d + 2) hvx l1 (by rw [show (l1 : Int32).toInt = l1.toInt from (ti_rfl l1)]; omega) (by rw [show (l1 : Int32).toInt = l1.toInt from (ti_rfl l1)]; omega) 7 (by rw [show (7 : Int32).toInt = 7 from (ti_c (v := 7) (a := 7) (by decide))]; omega) (by rw [show (7 : Int32).toInt = 7 from (ti_c (v := 7) (a := 7) (by decide))]; omega)) mL_X8_291 iM_X8_statementPlace rfl rfl (Nat.le_of_ble_eq_true rfl) (show d + 2 + 1 + 1 ≤ d + 4 by omega) (show 8 + (2 + 11) + 40 * (d + 2 + 1) ≤ 40 * (d + 4) by omega) (g_c0 hvx.ln) (Nat.le_of_ble_eq_true rfl) dX8_ends_131 ?_
          intro r h29 hq _
          obtain ⟨v30, rfl, v30l, v30u, rfl⟩ := hq
          refine go_invV (pc := 134) (sl := 0) (s_X8_hang_f l (d + 2) hvx v28 (by rw [show (v28 : Int32).toInt = v28.toInt from (ti_rfl v28)]; omega) (by rw [show (v28 : Int32).toInt = v28.toInt from (ti_rfl v28)]; omega) v30 (by rw [show (v30 : Int32).toInt = v30.toInt from (ti_rfl v30)]; omega) (by rw [show (v30 : Int32).toInt = v30.toInt from (ti_rfl v30)]; omega)) mL_X8_303 iM_X8_hang sM_X8_hang (hvx.sh rfl) rfl rfl rfl (Nat.le_of_ble_eq_true rfl) (show d + 2 + 1 + 1 ≤ d + 4 by omega) (show 8 + (3 + 11) + 40 * (d + 2 + 1) ≤ 40 * (d + 4) by omega) (g_c0 hvx.ln) (Nat.le_of_ble_eq_true rfl) dX8_ends_134 ?_
          intro r h31 hq _
          obtain ⟨rfl, hv31, f32⟩ := hq
          have fx31 : FX KAr h h31 := FX.tr fxx f32
          exact go_lv rfl (ih.2.2.2.2.2.2.2.2.1 l1 l2 l4 l5 h31 hv31 (by omega) (by omega) (by omega) (by omega) (by omega) (by omega) (by omega) (by omega) fx31 (by omega))
      ·
        intro l1 l2 l4 l5 hx hvx l1l l1u l2l l2u l4l l4u l5l l5u fxx hm
        refine go_aload_n (pc := 137) rfl dX8_ends_137 ?_
        refine gi_getF (pc := 138) (q := 102) hvx fL_X8_105 rfl (Nat.le_of_ble_eq_true rfl) rfl (hvx.rf (by decide)) dX8_ends_138 ?_
        refine go_iconst (pc := 141) (v := 5) (by decide) dX8_ends_141 ?_
        refine go_aload_n (pc := 142) rfl dX8_ends_142 ?_
        refine gi_get (pc := 143) (lo := 0) (hi := 1) hvx fL_X8_187 rfl (Nat.le_of_ble_eq_true rfl) rfl rfl dX8_ends_143 (fun v33 v33l v33u v33w => ?_)
        refine gf_imul (pc := 146) (ti_c (v := 5) (a := 5) (by decide)) (ti_rfl v33) (by omega) (by omega) dX8_ends_146 (fun v34 e35 => ?_)
        refine go_iload_n (pc := 147) rfl dX8_ends_147 ?_
        refine gf_iadd (pc := 148) e35 (ti_rfl l2) (by omega) (by omega) dX8_ends_148 (fun v36 e37 => ?_)
        refine gi_zald (pc := 149) (lo := 0) (hi := 1) (len := 10) hvx e37 rfl (by omega) (by omega) (fun _ => rfl) dX8_ends_149 (fun v38 v38l v38u v38w => ?_)
        refine gf_if_ne (pc := 150) (tgt := 154) (ti_rfl v38) (by decide) dX8_ends_150 (fun q39 => ?_) (fun q39 => ?_)
        ·
          refine go_iload (pc := 154) rfl dX8_ends_154 ?_
          refine gf_if_eq (pc := 156) (tgt := 174) (ti_rfl l4) (by decide) dX8_ends_156 (fun q40 => ?_) (fun q40 => ?_)
          ·
            exact go_lv rfl (ih.2.2.2.2.2.2.2.2.2.1 l1 l2 l5 hx hvx (by omega) (by omega) (by omega) (by omega) (by omega) (by omega) fxx (by omega))
          ·
            refine go_aload_n (pc := 159) rfl dX8_ends_159 ?_
            refine go_iload_n (pc := 160) rfl dX8_ends_160 ?_
            refine go_bipush (pc := 161) (v := 8) (by decide) dX8_ends_161 ?_
            refine go_invS (pc := 163) (sl := 0) (s_X8_procedurePlace l (d + 2) hvx l2 (by rw [show (l2 : Int32).toInt = l2.toInt from (ti_rfl l2)]; omega) (by rw [show (l2 : Int32).toInt = l2.toInt from (ti_rfl l2)]; omega) 8 (by rw [show (8 : Int32).toInt = 8 from (ti_c (v := 8) (a := 8) (by decide))]; omega) (by rw [show (8 : Int32).toInt = 8 from (ti_c (v := 8) (a := 8) (by decide))]; omega)) mL_X8_300 iM_X8_procedurePlace rfl rfl (Nat.le_of_ble_eq_true rfl) (show d + 2 + 1 + 1 ≤ d + 4 by omega) (show 8 + (2 + 11) + 40 * (d + 2 + 1) ≤ 40 * (d + 4) by omega) (g_c0 hvx.ln) (Nat.le_of_ble_eq_true rfl) dX8_ends_163 ?_
            intro r h41 hq _
            obtain ⟨v42, rfl, v42l, v42u, rfl⟩ := hq
            refine go_iload_n (pc := 166) rfl dX8_ends_166 ?_
            refine go_iconst (pc := 167) (v := 0) (by decide) dX8_ends_167 ?_
            refine go_invS (pc := 168) (sl := 0) (s_X8_statementPlace l (d + 2) hvx l1 (by rw [show (l1 : Int32).toInt = l1.toInt from (ti_rfl l1)]; omega) (by rw [show (l1 : Int32).toInt = l1.toInt from (ti_rfl l1)]; omega) 0 (by rw [show (0 : Int32).toInt = 0 from (ti_c (v := 0) (a := 0) (by decide))]; omega) (by rw [show (0 : Int32).toInt = 0 from (ti_c (v := 0) (a := 0) (by decide))]; omega)) mL_X8_291 iM_X8_statementPlace rfl rfl (Nat.le_of_ble_eq_true rfl) (show d + 2 + 1 + 1 ≤ d + 4 by omega) (show 8 + (2 + 11) + 40 * (d + 2 + 1) ≤ 40 * (d + 4) by omega) (g_c0 hvx.ln) (Nat.le_of_ble_eq_true rfl) dX8_ends_168 ?_
            intro r h43 hq _
            obtain ⟨v44, rfl, v44l, v44u, rfl⟩ := hq
            refine go_invV (pc := 171) (sl := 0) (s_X8_hang_f l (d + 2) hvx v42 (by rw [show (v42 : Int32).toInt = v42.toInt from (ti_rfl v42)]; omega) (by rw [show (v42 : Int32).toInt = v42.toInt from (ti_rfl v42)]; omega) v44 (by rw [show (v44 : Int32).toInt = v44.toInt from (ti_rfl v44)]; omega) (by rw [show (v44 : Int32).toInt = v44.toInt from (ti_rfl v44)]; omega)) mL_X8_303 iM_X8_hang sM_X8_hang (hvx.sh rfl) rfl rfl rfl (Nat.le_of_ble_eq_true rfl) (show d + 2 + 1 + 1 ≤ d + 4 by omega) (show 8 + (3 + 11) + 40 * (d + 2 + 1) ≤ 40 * (d + 4) by omega) (g_c0 hvx.ln) (Nat.le_of_ble_eq_true rfl) dX8_ends_171 ?_
            intro r h45 hq _
            obtain ⟨rfl, hv45, f46⟩ := hq
            have fx45 : FX KAr h h45 := FX.tr fxx f46
            exact go_lv rfl (ih.2.2.2.2.2.2.2.2.2.1 l1 l2 l5 h45 hv45 (by omega) (by omega) (by omega) (by omega) (by omega) (by omega) fx45 (by omega))
        ·
          exact gi_vret (pc := 153) ⟨rfl, hvx, fxx⟩ hvx dX8_ends_153
      ·
        intro l1 l2 l5 hx hvx l1l l1u l2l l2u l5l l5u fxx hm
        refine go_iload (pc := 174) rfl dX8_ends_174 ?_
        refine gf_if_eq (pc := 176) (tgt := 195) (ti_rfl l5) (by decide) dX8_ends_176 (fun q47 => ?_) (fun q47 => ?_)
        ·
          exact go_lv rfl (ih.2.2.2.2.2.2.2.2.2.2  hx hvx fxx (by omega))
        ·
          refine go_aload_n (pc := 179) rfl dX8_ends_179 ?_
          refine go_iload_n (pc := 180) rfl dX8_ends_180 ?_
          refine go_bipush (pc := 181) (v := 8) (by decide) dX8_ends_181 ?_
          refine go_invS (pc := 183) (sl := 0) (s_X8_procedurePlace l (d + 2) hvx l2 (by rw [show (l2 : Int32).toInt = l2.toInt from (ti_rfl l2)]; omega) (by rw [show (l2 : Int32).toInt = l2.toInt from (ti_rfl l2)]; omega) 8 (by rw [show (8 : Int32).toInt = 8 from (ti_c (v := 8) (a := 8) (by decide))]; omega) (by rw [show (8 : Int32).toInt = 8 from (ti_c (v := 8) (a := 8) (by decide))]; omega)) mL_X8_300 iM_X8_procedurePlace rfl rfl (Nat.le_of_ble_eq_true rfl) (show d + 2 + 1 + 1 ≤ d + 4 by omega) (show 8 + (2 + 11) + 40 * (d + 2 + 1) ≤ 40 * (d + 4) by omega) (g_c0 hvx.ln) (Nat.le_of_ble_eq_true rfl) dX8_ends_183 ?_
          intro r h48 hq _
          obtain ⟨v49, rfl, v49l, v49u, rfl⟩ := hq
          refine go_iload_n (pc := 186) rfl dX8_ends_186 ?_
          refine go_bipush (pc := 187) (v := 8) (by decide) dX8_ends_187 ?_
          refine go_invS (pc := 189) (sl := 0) (s_X8_statementPlace l (d + 2) hvx l1 (by rw [show (l1 : Int32).toInt = l1.toInt from (ti_rfl l1)]; omega) (by rw [show (l1 : Int32).toInt = l1.toInt from (ti_rfl l1)]; omega) 8 (by rw [show (8 : Int32).toInt = 8 from (ti_c (v := 8) (a := 8) (by decide))]; omega) (by rw [show (8 : Int32).toInt = 8 from (ti_c (v := 8) (a := 8) (by decide))]; omega)) mL_X8_291 iM_X8_statementPlace rfl rfl (Nat.le_of_ble_eq_true rfl) (show d + 2 + 1 + 1 ≤ d + 4 by omega) (show 8 + (2 + 11) + 40 * (d + 2 + 1) ≤ 40 * (d + 4) by omega) (g_c0 hvx.ln) (Nat.le_of_ble_eq_true rfl) dX8_ends_189 ?_
          intro r h50 hq _
          obtain ⟨v51, rfl, v51l, v51u, rfl⟩ := hq
          refine go_invV (pc := 192) (sl := 0) (s_X8_hang_f l (d + 2) hvx v49 (by rw [show (v49 : Int32).toInt = v49.toInt from (ti_rfl v49)]; omega) (by rw [show (v49 : Int32).toInt = v49.toInt from (ti_rfl v49)]; omega) v51 (by rw [show (v51 : Int32).toInt = v51.toInt from (ti_rfl v51)]; omega) (by rw [show (v51 : Int32).toInt = v51.toInt from (ti_rfl v51)]; omega)) mL_X8_303 iM_X8_hang sM_X8_hang (hvx.sh rfl) rfl rfl rfl (Nat.le_of_ble_eq_true rfl) (show d + 2 + 1 + 1 ≤ d + 4 by omega) (show 8 + (3 + 11) + 40 * (d + 2 + 1) ≤ 40 * (d + 4) by omega) (g_c0 hvx.ln) (Nat.le_of_ble_eq_true rfl) dX8_ends_192 ?_
          intro r h52 hq _
          obtain ⟨rfl, hv52, f53⟩ := hq
          have fx52 : FX KAr h h52 := FX.tr fxx f53
          exact go_lv rfl (ih.2.2.2.2.2.2.2.2.2.2  h52 hv52 fx52 (by omega))
      ·
        intro hx hvx fxx hm
        exact gi_vret (pc := 195) ⟨rfl, hvx, fxx⟩ hvx dX8_ends_195
  refine go_aload_n (pc := 0) rfl dX8_ends_0 ?_
  refine go_iload_n (pc := 1) rfl dX8_ends_1 ?_
  refine go_invV (pc := 2) (sl := 0) (s_X8_procedureOf l (d + 1) hv a2 (by rw [show (a2 : Int32).toInt = a2.toInt from (ti_rfl a2)]; omega) (by rw [show (a2 : Int32).toInt = a2.toInt from (ti_rfl a2)]; omega)) mL_X8_306 iM_X8_procedureOf sM_X8_procedureOf (hv.sh rfl) rfl rfl rfl (Nat.le_of_ble_eq_true rfl) (show d + 1 + 2 + 1 ≤ d + 4 by omega) (show 8 + (2 + 11) + 40 * (d + 1 + 2) ≤ 40 * (d + 4) by omega) (g_c0 hv.ln) (Nat.le_of_ble_eq_true rfl) dX8_ends_2 ?_
  intro r h54 hq _
  obtain ⟨v55, rfl, v55l, v55u, rfl⟩ := hq
  refine go_istore_n (pc := 5) (Nat.le_of_ble_eq_true rfl) dX8_ends_5 (go_lv (lv2 := [(0, .ref 70), (1, .int a2), (2, .int v55)]) rfl ?_)
  refine go_aload_n (pc := 6) rfl dX8_ends_6 ?_
  refine gi_getF (pc := 7) (q := 98) hv fL_X8_92 rfl (Nat.le_of_ble_eq_true rfl) rfl (hv.rf (by decide)) dX8_ends_7 ?_
  refine go_bipush (pc := 10) (v := 40) (by decide) dX8_ends_10 ?_
  refine go_aload_n (pc := 12) rfl dX8_ends_12 ?_
  refine gi_get (pc := 13) (lo := 0) (hi := 1) hv fL_X8_187 rfl (Nat.le_of_ble_eq_true rfl) rfl rfl dX8_ends_13 (fun v56 v56l v56u v56w => ?_)
  refine gf_imul (pc := 16) (ti_c (v := 40) (a := 40) (by decide)) (ti_rfl v56) (by omega) (by omega) dX8_ends_16 (fun v57 e58 => ?_)
  refine go_iload_n (pc := 17) rfl dX8_ends_17 ?_
  refine gf_iadd (pc := 18) e58 (ti_rfl a2) (by omega) (by omega) dX8_ends_18 (fun v59 e60 => ?_)
  refine gi_iald (pc := 19) (lo := -1) (hi := 39) (len := 80) hv e60 rfl (by omega) (by omega) (fun _ => rfl) dX8_ends_19 (fun v61 v61l v61u v61w => ?_)
  refine go_iconst (pc := 20) (v := (-1)) (by decide) dX8_ends_20 ?_
  refine gf_icmp_ne (pc := 21) (tgt := 46) (ti_rfl v61) (ti_c (v := (-1)) (a := (-1)) (by decide)) (by decide) dX8_ends_21 (fun q62 => ?_) (fun q62 => ?_)
  ·
    exact go_lv rfl ((key 24).1 a2 v55 h hv (by omega) (by omega) (by omega) (by omega) fx (by omega))
  ·
    refine go_aload_n (pc := 24) rfl dX8_ends_24 ?_
    refine gi_getF (pc := 25) (q := 99) hv fL_X8_95 rfl (Nat.le_of_ble_eq_true rfl) rfl (hv.rf (by decide)) dX8_ends_25 ?_
    refine go_bipush (pc := 28) (v := 40) (by decide) dX8_ends_28 ?_
    refine go_aload_n (pc := 30) rfl dX8_ends_30 ?_
    refine gi_get (pc := 31) (lo := 0) (hi := 1) hv fL_X8_187 rfl (Nat.le_of_ble_eq_true rfl) rfl rfl dX8_ends_31 (fun v63 v63l v63u v63w => ?_)
    have v63r : v56 = h.2.1 70 6 := v56w
    have v63q : TI v63 v56.toInt := by rw [v63w.trans v63r.symm]; exact (ti_rfl v56)
    refine gf_imul (pc := 34) (ti_c (v := 40) (a := 40) (by decide)) v63q (by omega) (by omega) dX8_ends_34 (fun v64 e65 => ?_)
    refine go_iload_n (pc := 35) rfl dX8_ends_35 ?_
    refine gf_iadd (pc := 36) e65 (ti_rfl a2) (by omega) (by omega) dX8_ends_36 (fun v66 e67 => ?_)
    refine gi_iald (pc := 37) (lo := -1) (hi := 5) (len := 80) hv e67 rfl (by omega) (by omega) (fun _ => rfl) dX8_ends_37 (fun v68 v68l v68u v68w => ?_)
    refine go_iconst (pc := 38) (v := (-1)) (by decide) dX8_ends_38 ?_
    refine gf_icmp_ne (pc := 39) (tgt := 46) (ti_rfl v68) (ti_c (v := (-1)) (a := (-1)) (by decide)) (by decide) dX8_ends_39 (fun q69 => ?_) (fun q69 => ?_)
    ·
      exact go_lv rfl ((key 24).1 a2 v55 h hv (by omega) (by omega) (by omega) (by omega) fx (by omega))
    ·
      refine go_iconst (pc := 42) (v := 1) (by decide) dX8_ends_42 ?_
      refine go_goto (pc := 43) (tgt := 47) (by decide) dX8_ends_43 ?_
      have z70 : (1 : Int32).toInt = 1 := (ti_c (v := 1) (a := 1) (by decide))
      exact go_lv rfl ((key 24).2.1 a2 v55 1 h hv (by omega) (by omega) (by omega) (by omega) (by omega) (by omega) fx (by omega))
set_option maxHeartbeats 4000000 in
set_option maxRecDepth 100000 in
theorem s_X8_count_f (l : Launch) (d : Nat) {P : PP} {h : HP} (hv : Iv P h) (a2 : Int32) : Mt l yX8_count cX8_count 2 (some .int) (d + 4) [.ref 70, .int a2] h 0 0 (fun r h' => ∃ v : Int32, r = some (.int v) ∧ -2147483648 ≤ v.toInt ∧ v.toInt ≤ 2147483647 ∧ Iv (gs P) h' ∧ (FX KAr h h')) := by
  refine Mt_iv hv (by decide) (Nat.le_of_ble_eq_true rfl) ?_
  show Go l RX8 cX8_count 2 (g_rm (d + 4) 0 0) "count" (some .int) 117 0 0 (fun _ _ => True) (fun r h' => ∃ v : Int32, r = some (.int v) ∧ -2147483648 ≤ v.toInt ∧ v.toInt ≤ 2147483647 ∧ Iv (gs P) h' ∧ (FX KAr h h')) 0 0 [(0, .ref 70), (1, .int a2)] [] h
  have fx : FX KAr h h := FX.rfl
  have key : ∀ n : Nat, (∀ (s0 : Int32) (hx : HP), Iv (gs P) hx → 0 ≤ s0.toInt → s0.toInt ≤ 40 → FX KAr h hx → (1 : Int) < n → Go l RX8 cX8_count 2 (g_rm (d + 4) 0 0) "count" (some .int) 117 0 0 (fun _ _ => True) (fun r h' => ∃ v : Int32, r = some (.int v) ∧ -2147483648 ≤ v.toInt ∧ v.toInt ≤ 2147483647 ∧ Iv (gs P) h' ∧ (FX KAr h h')) 0 68 [] [.int s0] hx) ∧ (∀ (s0 : Int32) (hx : HP), Iv (gs P) hx → 0 ≤ s0.toInt → s0.toInt ≤ 5 → FX KAr h hx → (2 : Int) < n → Go l RX8 cX8_count 2 (g_rm (d + 4) 0 0) "count" (some .int) 117 0 0 (fun _ _ => True) (fun r h' => ∃ v : Int32, r = some (.int v) ∧ -2147483648 ≤ v.toInt ∧ v.toInt ≤ 2147483647 ∧ Iv (gs P) h' ∧ (FX KAr h h')) 0 89 [] [.int s0] hx) ∧ (∀ (s0 : Int32) (hx : HP), Iv (gs P) hx → FX KAr h hx → (3 : Int) < n → Go l RX8 cX8_count 2 (g_rm (d + 4) 0 0) "count" (some .int) 117 0 0 (fun _ _ => True) (fun r h' => ∃ v : Int32, r = some (.int v) ∧ -2147483648 ≤ v.toInt ∧ v.toInt ≤ 2147483647 ∧ Iv (gs P) h' ∧ (FX KAr h h')) 0 105 [] [.int s0] hx) ∧ (∀ (s0 : Int32) (hx : HP), Iv (gs P) hx → FX KAr h hx → (4 : Int) < n → Go l RX8 cX8_count 2 (g_rm (d + 4) 0 0) "count" (some .int) 117 0 0 (fun _ _ => True) (fun r h' => ∃ v : Int32, r = some (.int v) ∧ -2147483648 ≤ v.toInt ∧ v.toInt ≤ 2147483647 ∧ Iv (gs P) h' ∧ (FX KAr h h')) 0 125 [] [.int s0] hx) ∧ (∀ (s0 : Int32) (hx : HP), Iv (gs P) hx → FX KAr h hx → (5 : Int) < n → Go l RX8 cX8_count 2 (g_rm (d + 4) 0 0) "count" (some .int) 117 0 0 (fun _ _ => True) (fun r h' => ∃ v : Int32, r = some (.int v) ∧ -2147483648 ≤ v.toInt ∧ v.toInt ≤ 2147483647 ∧ Iv (gs P) h' ∧ (FX KAr h h')) 0 145 [] [.int s0] hx) := by
    intro n
    induction n with
    | zero => exact ⟨(by intros; omega), (by intros; omega), (by intros; omega), (by intros; omega), (by intros; omega)⟩
    | succ n ih =>
      refine ⟨?_, ?_, ?_, ?_, ?_⟩
      ·
        intro s0 hx hvx s0l s0u fxx hm
        exact gi_iret (pc := 68) (ti_rfl s0) ⟨_, rfl, (ti_lo _), (ti_hi _), hvx, fxx⟩ hvx dX8_count_68
      ·
        intro s0 hx hvx s0l s0u fxx hm
        exact gi_iret (pc := 89) (ti_rfl s0) ⟨_, rfl, (ti_lo _), (ti_hi _), hvx, fxx⟩ hvx dX8_count_89
      ·
        intro s0 hx hvx fxx hm
        exact gi_iret (pc := 105) (ti_rfl s0) ⟨_, rfl, (ti_lo _), (ti_hi _), hvx, fxx⟩ hvx dX8_count_105
      ·
        intro s0 hx hvx fxx hm
        exact gi_iret (pc := 125) (ti_rfl s0) ⟨_, rfl, (ti_lo _), (ti_hi _), hvx, fxx⟩ hvx dX8_count_125
      ·
        intro s0 hx hvx fxx hm
        exact gi_iret (pc := 145) (ti_rfl s0) ⟨_, rfl, (ti_lo _), (ti_hi _), hvx, fxx⟩ hvx dX8_count_145
  refine go_aload_n (pc := 0) rfl dX8_count_0 ?_
  refine go_aload_n (pc := 1) rfl dX8_count_1 ?_
  refine gi_get (pc := 2) (lo := 0) (hi := 1) hv fL_X8_228 rfl (Nat.le_of_ble_eq_true rfl) rfl rfl dX8_count_2 (fun v1 v1l v1u v1w => ?_)
  refine gi_putS (pc := 5) hv v1w (fP_X8_187 _) dX8_count_5 (fun h2 hv2 hv2e => ?_)
  have fx2 : FX KAr h h2 := FX.pI fx hv2e (by unfold KAr; omega)
  refine go_iload_n (pc := 8) rfl dX8_count_8 ?_
  by_cases q3 : a2.toInt = 0
  ·
    refine go_tableIn (pc := 9) (tgt := 48) (off := 39) (by rw [show (a2 : Int32).toInt = a2.toInt from (ti_rfl a2)]; omega) (by rw [show (a2 : Int32).toInt = a2.toInt from (ti_rfl a2)]; omega) (by rw [show (a2 : Int32).toInt = a2.toInt from (ti_rfl a2), q3]; rfl) (by decide) dX8_count_9 ?_
    refine go_aload_n (pc := 48) rfl dX8_count_48 ?_
    refine gi_get (pc := 49) (lo := 0) (hi := 1) hv2 fL_X8_243 rfl (Nat.le_of_ble_eq_true rfl) rfl rfl dX8_count_49 (fun v4 v4l v4u v4w => ?_)
    refine gf_if_eq (pc := 52) (tgt := 67) (ti_rfl v4) (by decide) dX8_count_52 (fun q5 => ?_) (fun q5 => ?_)
    ·
      refine go_iconst (pc := 67) (v := 0) (by decide) dX8_count_67 ?_
      have z6 : (0 : Int32).toInt = 0 := (ti_c (v := 0) (a := 0) (by decide))
      exact go_lv rfl ((key 18).1 0 h2 hv2 (by omega) (by omega) fx2 (by omega))
    ·
      refine go_aload_n (pc := 55) rfl dX8_count_55 ?_
      refine gi_getF (pc := 56) (q := 75) hv2 fL_X8_23 rfl (Nat.le_of_ble_eq_true rfl) rfl (hv2.rf (by decide)) dX8_count_56 ?_
      refine go_aload_n (pc := 59) rfl dX8_count_59 ?_
      refine gi_get (pc := 60) (lo := 0) (hi := 1) hv2 fL_X8_228 rfl (Nat.le_of_ble_eq_true rfl) rfl rfl dX8_count_60 (fun v7 v7l v7u v7w => ?_)
      refine gi_iald (pc := 63) (lo := 0) (hi := 40) (len := 2) hv2 (ti_rfl v7) rfl (by omega) (by omega) (fun _ => rfl) dX8_count_63 (fun v8 v8l v8u v8w => ?_)
      refine go_goto (pc := 64) (tgt := 68) (by decide) dX8_count_64 ?_
      exact go_lv rfl ((key 18).1 v8 h2 hv2 (by omega) (by omega) fx2 (by omega))
  by_cases q9 : a2.toInt = 1
  ·
    refine go_tableIn (pc := 9) (tgt := 69) (off := 60) (by rw [show (a2 : Int32).toInt = a2.toInt from (ti_rfl a2)]; omega) (by rw [show (a2 : Int32).toInt = a2.toInt from (ti_rfl a2)]; omega) (by rw [show (a2 : Int32).toInt = a2.toInt from (ti_rfl a2), q9]; rfl) (by decide) dX8_count_9 ?_
    refine go_aload_n (pc := 69) rfl dX8_count_69 ?_
    refine gi_get (pc := 70) (lo := 0) (hi := 1) hv2 fL_X8_243 rfl (Nat.le_of_ble_eq_true rfl) rfl rfl dX8_count_70 (fun v10 v10l v10u v10w => ?_)
    refine gf_if_eq (pc := 73) (tgt := 88) (ti_rfl v10) (by decide) dX8_count_73 (fun q11 => ?_) (fun q11 => ?_)
    ·
      refine go_iconst (pc := 88) (v := 0) (by decide) dX8_count_88 ?_
      have z12 : (0 : Int32).toInt = 0 := (ti_c (v := 0) (a := 0) (by decide))
      exact go_lv rfl ((key 18).2.1 0 h2 hv2 (by omega) (by omega) fx2 (by omega))
    ·
      refine go_aload_n (pc := 76) rfl dX8_count_76 ?_
      refine gi_getF (pc := 77) (q := 76) hv2 fL_X8_26 rfl (Nat.le_of_ble_eq_true rfl) rfl (hv2.rf (by decide)) dX8_count_77 ?_
      refine go_aload_n (pc := 80) rfl dX8_count_80 ?_
      refine gi_get (pc := 81) (lo := 0) (hi := 1) hv2 fL_X8_228 rfl (Nat.le_of_ble_eq_true rfl) rfl rfl dX8_count_81 (fun v13 v13l v13u v13w => ?_)
      refine gi_iald (pc := 84) (lo := 0) (hi := 5) (len := 2) hv2 (ti_rfl v13) rfl (by omega) (by omega) (fun _ => rfl) dX8_count_84 (fun v14 v14l v14u v14w => ?_)
      refine go_goto (pc := 85) (tgt := 89) (by decide) dX8_count_85 ?_
      exact go_lv rfl ((key 18).2.1 v14 h2 hv2 (by omega) (by omega) fx2 (by omega))
  by_cases q15 : a2.toInt = 2
  ·
    refine go_tableIn (pc := 9) (tgt := 90) (off := 81) (by rw [show (a2 : Int32).toInt = a2.toInt from (ti_rfl a2)]; omega) (by rw [show (a2 : Int32).toInt = a2.toInt from (ti_rfl a2)]; omega) (by rw [show (a2 : Int32).toInt = a2.toInt from (ti_rfl a2), q15]; rfl) (by decide) dX8_count_9 ?_
    refine go_aload_n (pc := 90) rfl dX8_count_90 ?_
    refine gi_get (pc := 91) (lo := 0) (hi := 1) hv2 fL_X8_243 rfl (Nat.le_of_ble_eq_true rfl) rfl rfl dX8_count_91 (fun v16 v16l v16u v16w => ?_)
    refine gf_if_eq (pc := 94) (tgt := 104) (ti_rfl v16) (by decide) dX8_count_94 (fun q17 => ?_) (fun q17 => ?_)
    ·
      refine go_iconst (pc := 104) (v := 0) (by decide) dX8_count_104 ?_
      have z18 : (0 : Int32).toInt = 0 := (ti_c (v := 0) (a := 0) (by decide))
      exact go_lv rfl ((key 18).2.2.1 0 h2 hv2 fx2 (by omega))
    ·
      refine go_aload_n (pc := 97) rfl dX8_count_97 ?_
      refine go_invV (pc := 98) (sl := 0) (s_X8_calls l (d + 0) hv2 ) mL_X8_382 iM_X8_calls sM_X8_calls (hv2.sh rfl) rfl rfl rfl (Nat.le_of_ble_eq_true rfl) (show d + 0 + 3 + 1 ≤ d + 4 by omega) (show 8 + (3 + 11) + 40 * (d + 0 + 3) ≤ 40 * (d + 4) by omega) (g_c0 hv2.ln) (Nat.le_of_ble_eq_true rfl) dX8_count_98 ?_
      intro r h19 hq _
      obtain ⟨v20, rfl, v20l, v20u, rfl⟩ := hq
      refine go_goto (pc := 101) (tgt := 105) (by decide) dX8_count_101 ?_
      exact go_lv rfl ((key 18).2.2.1 v20 h2 hv2 fx2 (by omega))
  by_cases q21 : a2.toInt = 3
  ·
    refine go_tableIn (pc := 9) (tgt := 106) (off := 97) (by rw [show (a2 : Int32).toInt = a2.toInt from (ti_rfl a2)]; omega) (by rw [show (a2 : Int32).toInt = a2.toInt from (ti_rfl a2)]; omega) (by rw [show (a2 : Int32).toInt = a2.toInt from (ti_rfl a2), q21]; rfl) (by decide) dX8_count_9 ?_
    refine go_aload_n (pc := 106) rfl dX8_count_106 ?_
    refine gi_get (pc := 107) (lo := 0) (hi := 1) hv2 fL_X8_243 rfl (Nat.le_of_ble_eq_true rfl) rfl rfl dX8_count_107 (fun v22 v22l v22u v22w => ?_)
    refine gf_if_eq (pc := 110) (tgt := 124) (ti_rfl v22) (by decide) dX8_count_110 (fun q23 => ?_) (fun q23 => ?_)
    ·
      refine go_iconst (pc := 124) (v := 0) (by decide) dX8_count_124 ?_
      have z24 : (0 : Int32).toInt = 0 := (ti_c (v := 0) (a := 0) (by decide))
      exact go_lv rfl ((key 18).2.2.2.1 0 h2 hv2 fx2 (by omega))
    ·
      refine go_aload_n (pc := 113) rfl dX8_count_113 ?_
      refine go_aload_n (pc := 114) rfl dX8_count_114 ?_
      refine gi_getF (pc := 115) (q := 102) hv2 fL_X8_105 rfl (Nat.le_of_ble_eq_true rfl) rfl (hv2.rf (by decide)) dX8_count_115 ?_
      refine go_invV (pc := 118) (sl := 0) (s_X8_may l (d + 2) hv2 102 (by decide)) mL_X8_385 iM_X8_may sM_X8_may (hv2.sh rfl) rfl rfl rfl (Nat.le_of_ble_eq_true rfl) (show d + 2 + 1 + 1 ≤ d + 4 by omega) (show 8 + (4 + 11) + 40 * (d + 2 + 1) ≤ 40 * (d + 4) by omega) (g_c0 hv2.ln) (Nat.le_of_ble_eq_true rfl) dX8_count_118 ?_
      intro r h25 hq _
      obtain ⟨v26, rfl, v26l, v26u, rfl⟩ := hq
      refine go_goto (pc := 121) (tgt := 125) (by decide) dX8_count_121 ?_
      exact go_lv rfl ((key 18).2.2.2.1 v26 h2 hv2 fx2 (by omega))
  by_cases q27 : a2.toInt = 4
  ·
    refine go_tableIn (pc := 9) (tgt := 126) (off := 117) (by rw [show (a2 : Int32).toInt = a2.toInt from (ti_rfl a2)]; omega) (by rw [show (a2 : Int32).toInt = a2.toInt from (ti_rfl a2)]; omega) (by rw [show (a2 : Int32).toInt = a2.toInt from (ti_rfl a2), q27]; rfl) (by decide) dX8_count_9 ?_
    refine go_aload_n (pc := 126) rfl dX8_count_126 ?_
    refine gi_get (pc := 127) (lo := 0) (hi := 1) hv2 fL_X8_243 rfl (Nat.le_of_ble_eq_true rfl) rfl rfl dX8_count_127 (fun v28 v28l v28u v28w => ?_)
    refine gf_if_eq (pc := 130) (tgt := 144) (ti_rfl v28) (by decide) dX8_count_130 (fun q29 => ?_) (fun q29 => ?_)
    ·
      refine go_iconst (pc := 144) (v := 0) (by decide) dX8_count_144 ?_
      have z30 : (0 : Int32).toInt = 0 := (ti_c (v := 0) (a := 0) (by decide))
      exact go_lv rfl ((key 18).2.2.2.2 0 h2 hv2 fx2 (by omega))
    ·
      refine go_aload_n (pc := 133) rfl dX8_count_133 ?_
      refine go_aload_n (pc := 134) rfl dX8_count_134 ?_
      refine gi_getF (pc := 135) (q := 101) hv2 fL_X8_101 rfl (Nat.le_of_ble_eq_true rfl) rfl (hv2.rf (by decide)) dX8_count_135 ?_
      refine go_invV (pc := 138) (sl := 0) (s_X8_may l (d + 2) hv2 101 (by decide)) mL_X8_385 iM_X8_may sM_X8_may (hv2.sh rfl) rfl rfl rfl (Nat.le_of_ble_eq_true rfl) (show d + 2 + 1 + 1 ≤ d + 4 by omega) (show 8 + (4 + 11) + 40 * (d + 2 + 1) ≤ 40 * (d + 4) by omega) (g_c0 hv2.ln) (Nat.le_of_ble_eq_true rfl) dX8_count_138 ?_
      intro r h31 hq _
      obtain ⟨v32, rfl, v32l, v32u, rfl⟩ := hq
      refine go_goto (pc := 141) (tgt := 145) (by decide) dX8_count_141 ?_
      exact go_lv rfl ((key 18).2.2.2.2 v32 h2 hv2 fx2 (by omega))
  by_cases q33 : a2.toInt = 5
  ·
    refine go_tableIn (pc := 9) (tgt := 146) (off := 137) (by rw [show (a2 : Int32).toInt = a2.toInt from (ti_rfl a2)]; omega) (by rw [show (a2 : Int32).toInt = a2.toInt from (ti_rfl a2)]; omega) (by rw [show (a2 : Int32).toInt = a2.toInt from (ti_rfl a2), q33]; rfl) (by decide) dX8_count_9 ?_
    refine go_aload_n (pc := 146) rfl dX8_count_146 ?_
    refine gi_get (pc := 147) (lo := 0) (hi := 500) hv2 fL_X8_151 rfl (Nat.le_of_ble_eq_true rfl) rfl rfl dX8_count_147 (fun v34 v34l v34u v34w => ?_)
    have v34p : v34.toInt = P.2.1.toInt := by rw [v34w]; exact congrArg Int32.toInt hv2.t1
    exact gi_iret (pc := 150) (ti_rfl v34) ⟨_, rfl, (ti_lo _), (ti_hi _), hv2, fx2⟩ hv2 dX8_count_150
  refine go_tableOut (pc := 9) (tgt := 151) (by rw [show (a2 : Int32).toInt = a2.toInt from (ti_rfl a2)]; omega) (by decide) dX8_count_9 ?_
  refine go_iconst (pc := 151) (v := (-1)) (by decide) dX8_count_151 ?_
  exact gi_iret (pc := 152) (ti_c (v := (-1)) (a := (-1)) (by decide)) ⟨_, rfl, (ti_lo _), (ti_hi _), hv2, fx2⟩ hv2 dX8_count_152
