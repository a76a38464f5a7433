
set_option maxHeartbeats 4000000 in
set_option maxRecDepth 100000 in
theorem s_X8_goes_ff (l : Launch) (d : Nat) {P : PP} {h : HP} (hv : Iv P h) (a2 : Int32) (a2l : 0 ≤ a2.toInt) (a2u : a2.toInt ≤ 0) (a3 : Int32) (a3l : 0 ≤ a3.toInt) (a3u : a3.toInt ≤ 0) (hw : WT h.2.1 ≤ ct h.2.1 109) (ckf : CKF h.2.1) (hq : FC h.2.1 h.2.1 (h.2.1 70 6).toInt (-1) ∧ FR h.2.1) : Mt l yX8_goes cX8_goes 7 none (d + 4) [.ref 70, .int a2, .int a3] h 0 0 (fun r h' => r = none ∧ Iv P h' ∧ (GF h.2.1 h'.2.1 (h.2.1 70 6).toInt)) := by
  refine Mt_iv hv (by decide) (Nat.le_of_ble_eq_true rfl) ?_
  show Go l RX8 cX8_goes 7 (g_rm (d + 4) 0 0) "goes" none 117 0 0 (fun _ _ => True) (fun r h' => r = none ∧ Iv P h' ∧ (GF h.2.1 h'.2.1 (h.2.1 70 6).toInt)) 0 0 [(0, .ref 70), (1, .int a2), (2, .int a3)] [] h
  obtain ⟨S, hS⟩ : ∃ S : Int, S = (h.2.1 70 6).toInt := ⟨_, rfl⟩
  have S0 : 0 ≤ S := by rw [hS]; exact (hv.2.1 70 6).1
  have S1 : S ≤ 1 := by rw [hS]; exact (hv.2.1 70 6).2
  rw [← hS] at hq
  have key : ∀ n : Nat, (∀ (l1 : Int32) (l2 : Int32) (hx : HP), Iv P hx → 0 ≤ l1.toInt → l1.toInt ≤ 0 → 0 ≤ l2.toInt → l2.toInt ≤ 0 → (GQ h.2.1 hx.2.1 S (-1)) → ((0 ≤ ct hx.2.1 109 ∧ ct hx.2.1 109 ≤ 585) ∧ 0 ≤ WT hx.2.1 ∧ WT hx.2.1 ≤ 585) → (1200 * (2 * (585 - ct hx.2.1 109) + WT hx.2.1) : Int) < n → Go l RX8 cX8_goes 7 (g_rm (d + 4) 0 0) "goes" none 117 0 0 (fun _ _ => True) (fun r h' => r = none ∧ Iv P h' ∧ (GF h.2.1 h'.2.1 (h.2.1 70 6).toInt)) 0 0 [(0, .ref 70), (1, .int l1), (2, .int l2)] [] hx) ∧ (∀ (l1 : Int32) (l2 : Int32) (l3 : Int32) (l4 : Int32) (hx : HP), Iv P hx → 0 ≤ l1.toInt → l1.toInt ≤ 0 → 0 ≤ l2.toInt → l2.toInt ≤ 0 → 0 ≤ l3.toInt → l3.toInt ≤ 584 → 0 ≤ l4.toInt → l4.toInt ≤ 585 → (GQ h.2.1 hx.2.1 S l3.toInt) → ((0 ≤ ct hx.2.1 109 ∧ ct hx.2.1 109 ≤ 585) ∧ 0 ≤ WT hx.2.1 ∧ WT hx.2.1 ≤ 585) → (sb hx.2.1 109 l3.toInt) → (∀ x : Int, 0 ≤ x → x < l4.toInt → hb h.2.1 l3.toInt x → sb hx.2.1 109 x) → (1200 * (2 * (585 - ct hx.2.1 109) + WT hx.2.1) + 100 + (585 - l4.toInt) : Int) < n → Go l RX8 cX8_goes 7 (g_rm (d + 4) 0 0) "goes" none 117 0 0 (fun _ _ => True) (fun r h' => r = none ∧ Iv P h' ∧ (GF h.2.1 h'.2.1 (h.2.1 70 6).toInt)) 0 30 [(0, .ref 70), (1, .int l1), (2, .int l2), (3, .int l3), (4, .int l4)] [] hx) ∧ (∀ (l1 : Int32) (l2 : Int32) (l3 : Int32) (l4 : Int32) (l5 : Int32) (l6 : Int32) (hx : HP), Iv P hx → 0 ≤ l1.toInt → l1.toInt ≤ 0 → 0 ≤ l2.toInt → l2.toInt ≤ 0 → 0 ≤ l3.toInt → l3.toInt ≤ 584 → 7 ≤ l4.toInt → l4.toInt ≤ 12 → 0 ≤ l5.toInt → l5.toInt ≤ 4 → 0 ≤ l6.toInt → l6.toInt ≤ 6 → (GQ h.2.1 hx.2.1 S l3.toInt) → ((0 ≤ ct hx.2.1 109 ∧ ct hx.2.1 109 ≤ 585) ∧ 0 ≤ WT hx.2.1 ∧ WT hx.2.1 ≤ 585) → (sb hx.2.1 109 l3.toInt) → (∀ x : Int, 0 ≤ x → x < 585 → hb h.2.1 l3.toInt x → sb hx.2.1 109 x) → (l4.toInt = l3.toInt % 13) → (l3.toInt < 520) → (7 ≤ l4.toInt) → (l3.toInt / 13 < V h.2.1 75 S ∧ V h.2.1 77 (V h.2.1 93 (40 * S + l3.toInt / 13)) = 1) → (l5.toInt = V h.2.1 84 (V h.2.1 93 (40 * S + l3.toInt / 13))) → (∀ i : Int, 0 ≤ i → i < l6.toInt → tb h.2.1 (6 * l5.toInt + l4.toInt - 7) i → sb hx.2.1 109 (l3.toInt - l4.toInt + 1 + i)) → (1200 * (2 * (585 - ct hx.2.1 109) + WT hx.2.1) + 50 + (6 - l6.toInt) : Int) < n → Go l RX8 cX8_goes 7 (g_rm (d + 4) 0 0) "goes" none 117 0 0 (fun _ _ => True) (fun r h' => r = none ∧ Iv P h' ∧ (GF h.2.1 h'.2.1 (h.2.1 70 6).toInt)) 0 117 [(0, .ref 70), (1, .int l1), (2, .int l2), (3, .int l3), (4, .int l4), (5, .int l5), (6, .int l6)] [] hx) ∧ (∀ (l1 : Int32) (l2 : Int32) (l3 : Int32) (l4 : Int32) (s0 : Int32) (hx : HP), Iv P hx → 0 ≤ l1.toInt → l1.toInt ≤ 0 → 0 ≤ l2.toInt → l2.toInt ≤ 0 → 0 ≤ l3.toInt → l3.toInt ≤ 584 → 0 ≤ l4.toInt → l4.toInt ≤ 12 → 0 ≤ s0.toInt → s0.toInt ≤ 0 → (GQ h.2.1 hx.2.1 S l3.toInt) → ((0 ≤ ct hx.2.1 109 ∧ ct hx.2.1 109 ≤ 585) ∧ 0 ≤ WT hx.2.1 ∧ WT hx.2.1 ≤ 585) → (∀ x : Int, 0 ≤ x → x < 585 → E0 h.2.1 S l3.toInt x → sb hx.2.1 109 x) → (1200 * (2 * (585 - ct hx.2.1 109) + WT hx.2.1) + 10 : Int) < n → Go l RX8 cX8_goes 7 (g_rm (d + 4) 0 0) "goes" none 117 0 0 (fun _ _ => True) (fun r h' => r = none ∧ Iv P h' ∧ (GF h.2.1 h'.2.1 (h.2.1 70 6).toInt)) 0 184 [(0, .ref 70), (1, .int l1), (2, .int l2), (3, .int l3), (4, .int l4)] [.int s0] hx) := by
    intro n
    induction n with
    | zero => exact ⟨(by intros; omega), (by intros; omega), (by intros; omega), (by intros; omega)⟩
    | succ n ih =>
      refine ⟨?_, ?_, ?_, ?_⟩
      ·
        intro l1 l2 hx hvx l1l l1u l2l l2u x0 x1 hm
        obtain ⟨u70_47, u70_47w⟩ : ∃ v : Int32, v = hx.2.1 70 47 := ⟨_, rfl⟩
        have u70_47e : (hx.2.1 70 47).toInt = u70_47.toInt := by rw [u70_47w]
        have u70_47l : 0 ≤ u70_47.toInt := by rw [u70_47w]; exact (hvx.2.1 70 47).1
        have u70_47u : u70_47.toInt ≤ 585 := by rw [u70_47w]; exact (hvx.2.1 70 47).2
        have x0a := x0.1.1
        have x0b := x0.1.2.1
        have hwt : (hx.2.1 70 47).toInt = WT hx.2.1 := rfl
        refine go_aload_n (pc := 0) rfl dX8_goes_0 ?_
        refine gi_get (pc := 1) (lo := 0) (hi := 585) hvx fL_X8_344 rfl (Nat.le_of_ble_eq_true rfl) rfl rfl dX8_goes_1 (fun v1 v1l v1u v1w => ?_)
        have v1r : u70_47 = hx.2.1 70 47 := u70_47w
        have v1q : TI v1 u70_47.toInt := by rw [v1w.trans v1r.symm]; exact (ti_rfl u70_47)
        refine gf_if_le (pc := 4) (tgt := 218) v1q (by decide) dX8_goes_4 (fun q2 => ?_) (fun q2 => ?_)
        ·
          exact gi_vret (pc := 218) ⟨rfl, hvx, (by rw [← hS]; exact ⟨x0.2.1, GQ.fin x0 (by omega), x0.1.2.2.1, x0.1.2.2.2⟩)⟩ hvx dX8_goes_218
        ·
          refine go_aload_n (pc := 7) rfl dX8_goes_7 ?_
          refine go_dup (pc := 8) rfl dX8_goes_8 ?_
          refine gi_get (pc := 9) (lo := 0) (hi := 585) hvx fL_X8_344 rfl (Nat.le_of_ble_eq_true rfl) rfl rfl dX8_goes_9 (fun v3 v3l v3u v3w => ?_)
          have v3r : u70_47 = hx.2.1 70 47 := u70_47w
          have v3q : TI v3 u70_47.toInt := by rw [v3w.trans v3r.symm]; exact (ti_rfl u70_47)
          refine go_iconst (pc := 12) (v := 1) (by decide) dX8_goes_12 ?_
          refine gf_isub (pc := 13) v3q (ti_c (v := 1) (a := 1) (by decide)) (by omega) (by omega) dX8_goes_13 (fun v4 e5 => ?_)
          refine gi_put (pc := 14) (lo := 0) (hi := 585) hvx e5 (fP_X8_344 _) rfl (Nat.le_of_ble_eq_true rfl) rfl rfl (by omega) (by omega) rfl rfl (by decide) (by decide) (by decide) (by decide) dX8_goes_14 (fun h6 hv6 hv6e => ?_)
          have pop := GQ.pop (z := v4) x0 (by rw [show (v4 : Int32).toInt = (u70_47.toInt - 1) from e5]; omega) (by omega)
          have pop0 := PH.pop (F := hx.2.1) (z := v4) x0.1.1 (by rw [show (v4 : Int32).toInt = (u70_47.toInt - 1) from e5]; omega)
          have eh : h6.2.1 = (fun p q => if p = 70 ∧ q = 47 then v4 else hx.2.1 p q) := by rw [hv6e]; rfl
          rw [← eh] at pop pop0
          have pop1 := pop0.2.1
          have pop2 := pop0.2.2
          refine go_aload_n (pc := 17) rfl dX8_goes_17 ?_
          refine gi_getF (pc := 18) (q := 110) hv6 fL_X8_130 rfl (Nat.le_of_ble_eq_true rfl) rfl (hv6.rf (by decide)) dX8_goes_18 ?_
          refine go_aload_n (pc := 21) rfl dX8_goes_21 ?_
          refine gi_get (pc := 22) (lo := 0) (hi := 585) hv6 fL_X8_344 rfl (Nat.le_of_ble_eq_true rfl) rfl rfl dX8_goes_22 (fun v7 v7l v7u v7w => ?_)
          have v7r : v4 = h6.2.1 70 47 := (show v4 = h6.2.1 70 47 from by rw [hv6e]; exact g_iS.symm)
          have v7q : TI v7 ((u70_47.toInt - 1)) := by rw [v7w.trans v7r.symm]; exact e5
          refine gi_iald (pc := 25) (lo := 0) (hi := 584) (len := 585) hv6 v7q rfl (by omega) (by omega) (fun _ => rfl) dX8_goes_25 (fun v8 v8l v8u v8w => ?_)
          have ey : v8.toInt = V hx.2.1 110 (WT hx.2.1 - 1) := by rw [v8w, eh]; show (if 110 = 70 ∧ _ then _ else hx.2.1 110 _).toInt = _; rw [if_neg (by omega), ← u70_47e]; rfl
          rw [← ey] at pop
          refine go_istore_n (pc := 26) (Nat.le_of_ble_eq_true rfl) dX8_goes_26 (go_lv (lv2 := [(0, .ref 70), (1, .int l1), (2, .int l2), (3, .int v8)]) rfl ?_)
          refine go_iconst (pc := 27) (v := 0) (by decide) dX8_goes_27 ?_
          refine go_istore (pc := 28) (Nat.le_of_ble_eq_true rfl) dX8_goes_28 (go_lv (lv2 := [(0, .ref 70), (1, .int l1), (2, .int l2), (3, .int v8), (4, .int 0)]) rfl ?_)
          have z9 : (0 : Int32).toInt = 0 := (ti_c (v := 0) (a := 0) (by decide))
          exact go_lv rfl (ih.2.1 l1 l2 v8 0 h6 hv6 (by omega) (by omega) (by omega) (by omega) (by omega) (by omega) (by omega) (by omega) pop.1 ⟨⟨ct_lo _ _, ct_hi _ _⟩, (hv6.2.1 70 47)⟩ pop.2 (fun x a b => absurd b (by omega)) (by omega))
      ·
        intro l1 l2 l3 l4 hx hvx l1l l1u l2l l2u l3l l3u l4l l4u x0 x1 x2 x3 hm
        obtain ⟨u70_47, u70_47w⟩ : ∃ v : Int32, v = hx.2.1 70 47 := ⟨_, rfl⟩
        have u70_47e : (hx.2.1 70 47).toInt = u70_47.toInt := by rw [u70_47w]
        have u70_47l : 0 ≤ u70_47.toInt := by rw [u70_47w]; exact (hvx.2.1 70 47).1
        have u70_47u : u70_47.toInt ≤ 585 := by rw [u70_47w]; exact (hvx.2.1 70 47).2
        have x0a := x0.1.1
        have x0b := x0.1.2.1
        refine go_iload (pc := 30) rfl dX8_goes_30 ?_
        refine go_sipush (pc := 32) (v := 585) (by decide) dX8_goes_32 ?_
        refine gf_icmp_ge (pc := 35) (tgt := 60) (ti_rfl l4) (ti_c (v := 585) (a := 585) (by decide)) (by decide) dX8_goes_35 (fun q10 => ?_) (fun q10 => ?_)
        ·
          refine go_iload_n (pc := 60) rfl dX8_goes_60 ?_
          refine go_sipush (pc := 61) (v := 520) (by decide) dX8_goes_61 ?_
          refine gf_icmp_ge (pc := 64) (tgt := 74) (ti_rfl l3) (ti_c (v := 520) (a := 520) (by decide)) (by decide) dX8_goes_64 (fun q11 => ?_) (fun q11 => ?_)
          ·
            refine go_iload_n (pc := 74) rfl dX8_goes_74 ?_
            refine go_sipush (pc := 75) (v := 520) (by decide) dX8_goes_75 ?_
            refine gf_isub (pc := 78) (ti_rfl l3) (ti_c (v := 520) (a := 520) (by decide)) (by omega) (by omega) dX8_goes_78 (fun v12 e13 => ?_)
            refine go_bipush (pc := 79) (v := 13) (by decide) dX8_goes_79 ?_
            refine gf_irem (pc := 81) e13 (ti_c (v := 13) (a := 13) (by decide)) (by omega) (by omega) dX8_goes_81 (fun v14 e15 => ?_)
            have z16 : (v14 : Int32).toInt = ((l3.toInt - 520) % 13) := e15
            refine go_istore (pc := 82) (Nat.le_of_ble_eq_true rfl) dX8_goes_82 (go_lv (lv2 := [(0, .ref 70), (1, .int l1), (2, .int l2), (3, .int l3), (4, .int v14)]) rfl ?_)
            refine go_aload_n (pc := 84) rfl dX8_goes_84 ?_
            refine go_iload_n (pc := 85) rfl dX8_goes_85 ?_
            have sM17 : (hx.2.1 70 6).toInt = S := by rw [hvx.fy (j := 6) (by omega), ← hv.fy (j := 6) (by omega)]; exact hS.symm
            refine go_invV (pc := 86) (sl := 0) (s_X8_isCall_x l (d + 0) hvx l3 (by rw [show (l3 : Int32).toInt = l3.toInt from (ti_rfl l3)]; omega) (by rw [show (l3 : Int32).toInt = l3.toInt from (ti_rfl l3)]; omega)) mL_X8_350 iM_X8_isCall sM_X8_isCall (hvx.sh rfl) rfl rfl rfl (Nat.le_of_ble_eq_true rfl) (show d + 0 + 3 + 1 ≤ d + 4 by omega) (show 8 + (2 + 11) + 40 * (d + 0 + 3) ≤ 40 * (d + 4) by omega) (g_c0 hvx.ln) (Nat.le_of_ble_eq_true rfl) dX8_goes_86 ?_
            intro r h18 hq _
            obtain ⟨v20, rfl, v20l, v20u, rfl, f19⟩ := hq
            rw [sM17] at f19
            have icf := f19
            rw [VE.v (VE.of hv hvx) (c := 75) (by omega) (by omega), VE.v (VE.of hv hvx) (c := 77) (by omega) (by omega), VE.v (VE.of hv hvx) (c := 93) (by omega) (by omega)] at icf
            refine gf_if_eq (pc := 89) (tgt := 183) (ti_rfl v20) (by decide) dX8_goes_89 (fun q21 => ?_) (fun q21 => ?_)
            ·
              refine go_iload_n (pc := 183) rfl dX8_goes_183 ?_
              have z22 : (v14 : Int32).toInt = ((l3.toInt - 520) % 13) := e15
              exact go_lv rfl (ih.2.2.2 l1 l2 l3 v14 l1 hx hvx (by omega) (by omega) (by omega) (by omega) (by omega) (by omega) (by omega) (by omega) (by omega) (by omega) x0 ⟨⟨ct_lo _ _, ct_hi _ _⟩, (hvx.2.1 70 47)⟩ (fun x a b e => by rcases e with e | ⟨e1, e2, e3, e4, _⟩; (exact x3 x a (by omega) e); (exact absurd e4 (by first | omega | exact fun _ => (icf.2 (by omega)) ⟨e1, e2, e3⟩))) (by omega))
            ·
              refine go_iload (pc := 92) rfl dX8_goes_92 ?_
              refine go_bipush (pc := 94) (v := 7) (by decide) dX8_goes_94 ?_
              refine gf_icmp_lt (pc := 96) (tgt := 183) e15 (ti_c (v := 7) (a := 7) (by decide)) (by decide) dX8_goes_96 (fun q23 => ?_) (fun q23 => ?_)
              ·
                refine go_iload_n (pc := 183) rfl dX8_goes_183 ?_
                have z24 : (v14 : Int32).toInt = ((l3.toInt - 520) % 13) := e15
                exact go_lv rfl (ih.2.2.2 l1 l2 l3 v14 l1 hx hvx (by omega) (by omega) (by omega) (by omega) (by omega) (by omega) (by omega) (by omega) (by omega) (by omega) x0 ⟨⟨ct_lo _ _, ct_hi _ _⟩, (hvx.2.1 70 47)⟩ (fun x a b e => by rcases e with e | ⟨e1, e2, e3, e4, _⟩; (exact x3 x a (by omega) e); (exact absurd e4 (by first | omega | exact fun _ => (icf.2 (by omega)) ⟨e1, e2, e3⟩))) (by omega))
              ·
                refine go_aload_n (pc := 99) rfl dX8_goes_99 ?_
                refine gi_getF (pc := 100) (q := 84) hvx fL_X8_50 rfl (Nat.le_of_ble_eq_true rfl) rfl (hvx.rf (by decide)) dX8_goes_100 ?_
                refine go_aload_n (pc := 103) rfl dX8_goes_103 ?_
                refine go_iload_n (pc := 104) rfl dX8_goes_104 ?_
                refine go_bipush (pc := 105) (v := 13) (by decide) dX8_goes_105 ?_
                refine gf_idiv (pc := 107) (ti_rfl l3) (ti_c (v := 13) (a := 13) (by decide)) (by omega) (by omega) dX8_goes_107 (fun v25 e26 => ?_)
                refine go_invV (pc := 108) (sl := 0) (s_X8_item l (d + 2) hvx v25 (by rw [show (v25 : Int32).toInt = (l3.toInt / 13) from e26]; omega) (by rw [show (v25 : Int32).toInt = (l3.toInt / 13) from e26]; omega)) mL_X8_268 iM_X8_item sM_X8_item (hvx.sh rfl) rfl rfl rfl (Nat.le_of_ble_eq_true rfl) (show d + 2 + 1 + 1 ≤ d + 4 by omega) (show 8 + (2 + 11) + 40 * (d + 2 + 1) ≤ 40 * (d + 4) by omega) (g_c0 hvx.ln) (Nat.le_of_ble_eq_true rfl) dX8_goes_108 ?_
                intro r h27 hq _
                obtain ⟨v29, rfl, v29l, v29u, rfl, f28⟩ := hq
                have v29K : v29.toInt = V h.2.1 93 (40 * S + (l3.toInt / 13)) := by rw [f28]; unfold g_it; rw [show (v25 : Int32).toInt = (l3.toInt / 13) from e26, hvx.fy (j := 6) (by omega), ← hv.fy (j := 6) (by omega), ← hS, hvx.fz (c := 93) (by omega) (by omega), ← hv.fz (c := 93) (by omega) (by omega)]; rfl
                try rw [show (v25 : Int32).toInt = (l3.toInt / 13) from e26] at f28
                refine gi_iald (pc := 111) (lo := -2) (hi := 4) (len := 260) hvx (ti_rfl v29) rfl (by omega) (by omega) (fun _ => rfl) dX8_goes_111 (fun v30 v30l v30u v30w => ?_)
                have v30V : v30.toInt = V h.2.1 84 v29.toInt := by rw [v30w, hvx.fz (c := 84) (by omega) (by omega), ← hv.fz (c := 84) (by omega) (by omega)]; rfl
                have ic := icf.1 (by omega)
                have kk : 0 ≤ v30.toInt := by
                  rw [v30w]
                  refine (KS.ckf x0.1.2.2.2 ckf) _ ?_
                  have e : V h.2.1 77 v29.toInt = 1 := by rw [v29K]; exact ic.2.2
                  rw [← x0.1.2.2.2.ve.v (c := 77) (by omega) (by omega)] at e
                  exact e
                refine go_istore (pc := 112) (Nat.le_of_ble_eq_true rfl) dX8_goes_112 (go_lv (lv2 := [(0, .ref 70), (1, .int l1), (2, .int l2), (3, .int l3), (4, .int v14), (5, .int v30)]) rfl ?_)
                refine go_iconst (pc := 114) (v := 0) (by decide) dX8_goes_114 ?_
                refine go_istore (pc := 115) (Nat.le_of_ble_eq_true rfl) dX8_goes_115 (go_lv (lv2 := [(0, .ref 70), (1, .int l1), (2, .int l2), (3, .int l3), (4, .int v14), (5, .int v30), (6, .int 0)]) rfl ?_)
                have z31 : (v14 : Int32).toInt = ((l3.toInt - 520) % 13) := e15
                have z32 : (0 : Int32).toInt = 0 := (ti_c (v := 0) (a := 0) (by decide))
                exact go_lv rfl (ih.2.2.1 l1 l2 l3 v14 v30 0 hx hvx (by omega) (by omega) (by omega) (by omega) (by omega) (by omega) (by omega) (by omega) (by omega) (by omega) (by omega) (by omega) x0 ⟨⟨ct_lo _ _, ct_hi _ _⟩, (hvx.2.1 70 47)⟩ x2 (fun x a b q => x3 x a (by omega) q) (by omega) (by omega) (by omega) ic.2 (by rw [v30V, v29K]) (fun i a b => absurd b (by omega)) (by omega))
          ·
            refine go_iload_n (pc := 67) rfl dX8_goes_67 ?_
            refine go_bipush (pc := 68) (v := 13) (by decide) dX8_goes_68 ?_
            refine gf_irem (pc := 70) (ti_rfl l3) (ti_c (v := 13) (a := 13) (by decide)) (by omega) (by omega) dX8_goes_70 (fun v33 e34 => ?_)
            refine go_goto (pc := 71) (tgt := 82) (by decide) dX8_goes_71 ?_
            have z35 : (v33 : Int32).toInt = (l3.toInt % 13) := e34
            refine go_istore (pc := 82) (Nat.le_of_ble_eq_true rfl) dX8_goes_82 (go_lv (lv2 := [(0, .ref 70), (1, .int l1), (2, .int l2), (3, .int l3), (4, .int v33)]) rfl ?_)
            refine go_aload_n (pc := 84) rfl dX8_goes_84 ?_
            refine go_iload_n (pc := 85) rfl dX8_goes_85 ?_
            have sM36 : (hx.2.1 70 6).toInt = S := by rw [hvx.fy (j := 6) (by omega), ← hv.fy (j := 6) (by omega)]; exact hS.symm
            refine go_invV (pc := 86) (sl := 0) (s_X8_isCall_x l (d + 0) hvx l3 (by rw [show (l3 : Int32).toInt = l3.toInt from (ti_rfl l3)]; omega) (by rw [show (l3 : Int32).toInt = l3.toInt from (ti_rfl l3)]; omega)) mL_X8_350 iM_X8_isCall sM_X8_isCall (hvx.sh rfl) rfl rfl rfl (Nat.le_of_ble_eq_true rfl) (show d + 0 + 3 + 1 ≤ d + 4 by omega) (show 8 + (2 + 11) + 40 * (d + 0 + 3) ≤ 40 * (d + 4) by omega) (g_c0 hvx.ln) (Nat.le_of_ble_eq_true rfl) dX8_goes_86 ?_
            intro r h37 hq _
            obtain ⟨v39, rfl, v39l, v39u, rfl, f38⟩ := hq
            rw [sM36] at f38
            have icf := f38
            rw [VE.v (VE.of hv hvx) (c := 75) (by omega) (by omega), VE.v (VE.of hv hvx) (c := 77) (by omega) (by omega), VE.v (VE.of hv hvx) (c := 93) (by omega) (by omega)] at icf
            refine gf_if_eq (pc := 89) (tgt := 183) (ti_rfl v39) (by decide) dX8_goes_89 (fun q40 => ?_) (fun q40 => ?_)
            ·
              refine go_iload_n (pc := 183) rfl dX8_goes_183 ?_
              have z41 : (v33 : Int32).toInt = (l3.toInt % 13) := e34
              exact go_lv rfl (ih.2.2.2 l1 l2 l3 v33 l1 hx hvx (by omega) (by omega) (by omega) (by omega) (by omega) (by omega) (by omega) (by omega) (by omega) (by omega) x0 ⟨⟨ct_lo _ _, ct_hi _ _⟩, (hvx.2.1 70 47)⟩ (fun x a b e => by rcases e with e | ⟨e1, e2, e3, e4, _⟩; (exact x3 x a (by omega) e); (exact absurd e4 (by first | omega | exact fun _ => (icf.2 (by omega)) ⟨e1, e2, e3⟩))) (by omega))
            ·
              refine go_iload (pc := 92) rfl dX8_goes_92 ?_
              refine go_bipush (pc := 94) (v := 7) (by decide) dX8_goes_94 ?_
              refine gf_icmp_lt (pc := 96) (tgt := 183) e34 (ti_c (v := 7) (a := 7) (by decide)) (by decide) dX8_goes_96 (fun q42 => ?_) (fun q42 => ?_)
              ·
                refine go_iload_n (pc := 183) rfl dX8_goes_183 ?_
                have z43 : (v33 : Int32).toInt = (l3.toInt % 13) := e34
                exact go_lv rfl (ih.2.2.2 l1 l2 l3 v33 l1 hx hvx (by omega) (by omega) (by omega) (by omega) (by omega) (by omega) (by omega) (by omega) (by omega) (by omega) x0 ⟨⟨ct_lo _ _, ct_hi _ _⟩, (hvx.2.1 70 47)⟩ (fun x a b e => by rcases e with e | ⟨e1, e2, e3, e4, _⟩; (exact x3 x a (by omega) e); (exact absurd e4 (by first | omega | exact fun _ => (icf.2 (by omega)) ⟨e1, e2, e3⟩))) (by omega))
              ·
                refine go_aload_n (pc := 99) rfl dX8_goes_99 ?_
                refine gi_getF (pc := 100) (q := 84) hvx fL_X8_50 rfl (Nat.le_of_ble_eq_true rfl) rfl (hvx.rf (by decide)) dX8_goes_100 ?_
                refine go_aload_n (pc := 103) rfl dX8_goes_103 ?_
                refine go_iload_n (pc := 104) rfl dX8_goes_104 ?_
                refine go_bipush (pc := 105) (v := 13) (by decide) dX8_goes_105 ?_
                refine gf_idiv (pc := 107) (ti_rfl l3) (ti_c (v := 13) (a := 13) (by decide)) (by omega) (by omega) dX8_goes_107 (fun v44 e45 => ?_)
                refine go_invV (pc := 108) (sl := 0) (s_X8_item l (d + 2) hvx v44 (by rw [show (v44 : Int32).toInt = (l3.toInt / 13) from e45]; omega) (by rw [show (v44 : Int32).toInt = (l3.toInt / 13) from e45]; omega)) mL_X8_268 iM_X8_item sM_X8_item (hvx.sh rfl) rfl rfl rfl (Nat.le_of_ble_eq_true rfl) (show d + 2 + 1 + 1 ≤ d + 4 by omega) (show 8 + (2 + 11) + 40 * (d + 2 + 1) ≤ 40 * (d + 4) by omega) (g_c0 hvx.ln) (Nat.le_of_ble_eq_true rfl) dX8_goes_108 ?_
                intro r h46 hq _
                obtain ⟨v48, rfl, v48l, v48u, rfl, f47⟩ := hq
                have v48K : v48.toInt = V h.2.1 93 (40 * S + (l3.toInt / 13)) := by rw [f47]; unfold g_it; rw [show (v44 : Int32).toInt = (l3.toInt / 13) from e45, hvx.fy (j := 6) (by omega), ← hv.fy (j := 6) (by omega), ← hS, hvx.fz (c := 93) (by omega) (by omega), ← hv.fz (c := 93) (by omega) (by omega)]; rfl
                try rw [show (v44 : Int32).toInt = (l3.toInt / 13) from e45] at f47
                refine gi_iald (pc := 111) (lo := -2) (hi := 4) (len := 260) hvx (ti_rfl v48) rfl (by omega) (by omega) (fun _ => rfl) dX8_goes_111 (fun v49 v49l v49u v49w => ?_)
                have v49V : v49.toInt = V h.2.1 84 v48.toInt := by rw [v49w, hvx.fz (c := 84) (by omega) (by omega), ← hv.fz (c := 84) (by omega) (by omega)]; rfl
                have ic := icf.1 (by omega)
                have kk : 0 ≤ v49.toInt := by
                  rw [v49w]
                  refine (KS.ckf x0.1.2.2.2 ckf) _ ?_
                  have e : V h.2.1 77 v48.toInt = 1 := by rw [v48K]; exact ic.2.2
                  rw [← x0.1.2.2.2.ve.v (c := 77) (by omega) (by omega)] at e
                  exact e
                refine go_istore (pc := 112) (Nat.le_of_ble_eq_true rfl) dX8_goes_112 (go_lv (lv2 := [(0, .ref 70), (1, .int l1), (2, .int l2), (3, .int l3), (4, .int v33), (5, .int v49)]) rfl ?_)
                refine go_iconst (pc := 114) (v := 0) (by decide) dX8_goes_114 ?_
                refine go_istore (pc := 115) (Nat.le_of_ble_eq_true rfl) dX8_goes_115 (go_lv (lv2 := [(0, .ref 70), (1, .int l1), (2, .int l2), (3, .int l3), (4, .int v33), (5, .int v49), (6, .int 0)]) rfl ?_)
                have z50 : (v33 : Int32).toInt = (l3.toInt % 13) := e34
                have z51 : (0 : Int32).toInt = 0 := (ti_c (v := 0) (a := 0) (by decide))
                exact go_lv rfl (ih.2.2.1 l1 l2 l3 v33 v49 0 hx hvx (by omega) (by omega) (by omega) (by omega) (by omega) (by omega) (by omega) (by omega) (by omega) (by omega) (by omega) (by omega) x0 ⟨⟨ct_lo _ _, ct_hi _ _⟩, (hvx.2.1 70 47)⟩ x2 (fun x a b q => x3 x a (by omega) q) (by omega) (by omega) (by omega) ic.2 (by rw [v49V, v48K]) (fun i a b => absurd b (by omega)) (by omega))
        ·
          refine go_aload_n (pc := 38) rfl dX8_goes_38 ?_
          refine go_iload_n (pc := 39) rfl dX8_goes_39 ?_
          refine go_iload (pc := 40) rfl dX8_goes_40 ?_
          refine go_invV (pc := 42) (sl := 0) (s_X8_isHung_x l (d + 2) hvx l3 (by rw [show (l3 : Int32).toInt = l3.toInt from (ti_rfl l3)]; omega) (by rw [show (l3 : Int32).toInt = l3.toInt from (ti_rfl l3)]; omega) l4 (by rw [show (l4 : Int32).toInt = l4.toInt from (ti_rfl l4)]; omega) (by rw [show (l4 : Int32).toInt = l4.toInt from (ti_rfl l4)]; omega)) mL_X8_326 iM_X8_isHung sM_X8_isHung (hvx.sh rfl) rfl rfl rfl (Nat.le_of_ble_eq_true rfl) (show d + 2 + 1 + 1 ≤ d + 4 by omega) (show 8 + (3 + 11) + 40 * (d + 2 + 1) ≤ 40 * (d + 4) by omega) (g_c0 hvx.ln) (Nat.le_of_ble_eq_true rfl) dX8_goes_42 ?_
          intro r h52 hq _
          obtain ⟨v54, rfl, v54l, v54u, rfl, f53⟩ := hq
          refine gf_if_eq (pc := 45) (tgt := 54) (ti_rfl v54) (by decide) dX8_goes_45 (fun q55 => ?_) (fun q55 => ?_)
          ·
            refine gf_iinc (pc := 54) (Nat.le_of_ble_eq_true rfl) rfl (ti_rfl l4) (ti_c (by decide)) (by omega) (by omega) dX8_goes_54 (fun v56 e57 => ?_)
            refine go_lv (lv2 := [(0, .ref 70), (1, .int l1), (2, .int l2), (3, .int l3), (4, .int v56)]) rfl ?_
            refine go_goto (pc := 57) (tgt := 30) (by decide) dX8_goes_57 ?_
            have z58 : (v56 : Int32).toInt = (l4.toInt + 1) := e57
            exact go_lv rfl (ih.2.1 l1 l2 l3 v56 hx hvx (by omega) (by omega) (by omega) (by omega) (by omega) (by omega) (by omega) (by omega) x0 ⟨⟨ct_lo _ _, ct_hi _ _⟩, (hvx.2.1 70 47)⟩ x2 (fun x a b q => by rcases Int.lt_or_eq_of_le (show x ≤ l4.toInt by omega) with z | z; (exact x3 x a z q); (rw [z] at q; exact absurd ((hb_ks x0.1.2.2.2 _ _).mpr q) (f53.2 (by omega)))) (by omega))
          ·
            refine go_aload_n (pc := 48) rfl dX8_goes_48 ?_
            refine go_iload (pc := 49) rfl dX8_goes_49 ?_
            refine go_invV (pc := 51) (sl := 0) (s_X8_reach l (d + 1) hvx l4 (by rw [show (l4 : Int32).toInt = l4.toInt from (ti_rfl l4)]; omega) (by rw [show (l4 : Int32).toInt = l4.toInt from (ti_rfl l4)]; omega) x0.1.1) mL_X8_347 iM_X8_reach sM_X8_reach (hvx.sh rfl) rfl rfl rfl (Nat.le_of_ble_eq_true rfl) (show d + 1 + 2 + 1 ≤ d + 4 by omega) (show 8 + (2 + 11) + 40 * (d + 1 + 2) ≤ 40 * (d + 4) by omega) (g_c0 hvx.ln) (Nat.le_of_ble_eq_true rfl) dX8_goes_51 ?_
            intro r h59 hq _
            obtain ⟨rfl, hv59, f60⟩ := hq
            obtain ⟨gq2, sx, sy2, su⟩ := GQ.reach x0 f60 (by omega) (by omega) (by omega) (by omega) (by omega) x2 (Or.inl ((hb_ks x0.1.2.2.2 _ _).mp (f53.1 (by omega)))) (fun j => ⟨(hvx.2.1 110 j.toNat).1, by have q : V hx.2.1 110 j ≤ 584 := (hvx.2.1 110 j.toNat).2; omega⟩)
            have gqa := gq2.1.1
            have gqb := (RC.ph f60 (by omega) (by omega) x0.1.1).2.1
            refine gf_iinc (pc := 54) (Nat.le_of_ble_eq_true rfl) rfl (ti_rfl l4) (ti_c (by decide)) (by omega) (by omega) dX8_goes_54 (fun v61 e62 => ?_)
            refine go_lv (lv2 := [(0, .ref 70), (1, .int l1), (2, .int l2), (3, .int l3), (4, .int v61)]) rfl ?_
            refine go_goto (pc := 57) (tgt := 30) (by decide) dX8_goes_57 ?_
            have z63 : (v61 : Int32).toInt = (l4.toInt + 1) := e62
            exact go_lv rfl (ih.2.1 l1 l2 l3 v61 h59 hv59 (by omega) (by omega) (by omega) (by omega) (by omega) (by omega) (by omega) (by omega) gq2 ⟨⟨ct_lo _ _, ct_hi _ _⟩, (hv59.2.1 70 47)⟩ sy2 (fun x a b q => by rcases Int.lt_or_eq_of_le (show x ≤ l4.toInt by omega) with z | z; (exact su x a (by omega) (x3 x a z q)); (rw [z]; exact sx)) (by omega))
      ·
        intro l1 l2 l3 l4 l5 l6 hx hvx l1l l1u l2l l2u l3l l3u l4l l4u l5l l5u l6l l6u x0 x1 x2 x3 x4 x5 x6 x7 x8 x9 hm
        obtain ⟨u70_47, u70_47w⟩ : ∃ v : Int32, v = hx.2.1 70 47 := ⟨_, rfl⟩
        have u70_47e : (hx.2.1 70 47).toInt = u70_47.toInt := by rw [u70_47w]
        have u70_47l : 0 ≤ u70_47.toInt := by rw [u70_47w]; exact (hvx.2.1 70 47).1
        have u70_47u : u70_47.toInt ≤ 585 := by rw [u70_47w]; exact (hvx.2.1 70 47).2
        have x0a := x0.1.1
        have x0b := x0.1.2.1
        refine go_iload (pc := 117) rfl dX8_goes_117 ?_
        refine go_bipush (pc := 119) (v := 6) (by decide) dX8_goes_119 ?_
        refine gf_icmp_ge (pc := 121) (tgt := 168) (ti_rfl l6) (ti_c (v := 6) (a := 6) (by decide)) (by decide) dX8_goes_121 (fun q64 => ?_) (fun q64 => ?_)
        ·
          refine go_iload_n (pc := 168) rfl dX8_goes_168 ?_
          refine gf_if_eq (pc := 169) (tgt := 183) (ti_rfl l2) (by decide) dX8_goes_169 (fun q65 => ?_) (fun q65 => False.elim (by omega))
          refine go_iload_n (pc := 183) rfl dX8_goes_183 ?_
          exact go_lv rfl (ih.2.2.2 l1 l2 l3 l4 l1 hx hvx (by omega) (by omega) (by omega) (by omega) (by omega) (by omega) (by omega) (by omega) (by omega) (by omega) x0 ⟨⟨ct_lo _ _, ct_hi _ _⟩, (hvx.2.1 70 47)⟩ (fun x a b e => by rcases e with e | ⟨e1, e2, e3, e4, i, i0, i1, it, ix⟩; (exact x3 x a b e); (rw [← x8, ← x4] at it; rw [ix, ← x4]; exact x9 i i0 (by omega) it)) (by omega))
        ·
          refine go_aload_n (pc := 124) rfl dX8_goes_124 ?_
          refine gi_getF (pc := 125) (q := 108) hvx fL_X8_124 rfl (Nat.le_of_ble_eq_true rfl) rfl (hvx.rf (by decide)) dX8_goes_125 ?_
          refine go_bipush (pc := 128) (v := 6) (by decide) dX8_goes_128 ?_
          refine go_iload (pc := 130) rfl dX8_goes_130 ?_
          refine gf_imul (pc := 132) (ti_c (v := 6) (a := 6) (by decide)) (ti_rfl l5) (by omega) (by omega) dX8_goes_132 (fun v66 e67 => ?_)
          refine go_iload (pc := 133) rfl dX8_goes_133 ?_
          refine gf_iadd (pc := 135) e67 (ti_rfl l4) (by omega) (by omega) dX8_goes_135 (fun v68 e69 => ?_)
          refine go_bipush (pc := 136) (v := 7) (by decide) dX8_goes_136 ?_
          refine gf_isub (pc := 138) e69 (ti_c (v := 7) (a := 7) (by decide)) (by omega) (by omega) dX8_goes_138 (fun v70 e71 => ?_)
          refine gi_iald (pc := 139) (lo := -2147483648) (hi := 2147483647) (len := 30) hvx e71 rfl (by omega) (by omega) (fun _ => rfl) dX8_goes_139 (fun v72 v72l v72u v72w => ?_)
          refine go_iload (pc := 140) rfl dX8_goes_140 ?_
          refine gx_ishr (pc := 142) dX8_goes_142 (fun v73 v73x => ?_)
          refine go_iconst (pc := 143) (v := 1) (by decide) dX8_goes_143 ?_
          refine gx_iand (pc := 144) dX8_goes_144 (fun v74 v74x => ?_)
          have v74l : 0 ≤ v74.toInt := by rw [v74x]; exact (ti_mask (ti_c (v := 1) (a := 1) (by decide)) (by omega)).1
          have v74u : v74.toInt ≤ 1 := by rw [v74x]; exact (ti_mask (ti_c (v := 1) (a := 1) (by decide)) (by omega)).2
          refine go_iconst (pc := 145) (v := 1) (by decide) dX8_goes_145 ?_
          refine gf_icmp_ne (pc := 146) (tgt := 162) (ti_rfl v74) (ti_c (v := 1) (a := 1) (by decide)) (by decide) dX8_goes_146 (fun q75 => ?_) (fun q75 => ?_)
          ·
            refine gf_iinc (pc := 162) (Nat.le_of_ble_eq_true rfl) rfl (ti_rfl l6) (ti_c (by decide)) (by omega) (by omega) dX8_goes_162 (fun v76 e77 => ?_)
            refine go_lv (lv2 := [(0, .ref 70), (1, .int l1), (2, .int l2), (3, .int l3), (4, .int l4), (5, .int l5), (6, .int v76)]) rfl ?_
            refine go_goto (pc := 165) (tgt := 117) (by decide) dX8_goes_165 ?_
            have z78 : (v76 : Int32).toInt = (l6.toInt + 1) := e77
            exact go_lv rfl (ih.2.2.1 l1 l2 l3 l4 l5 v76 hx hvx (by omega) (by omega) (by omega) (by omega) (by omega) (by omega) (by omega) (by omega) (by omega) (by omega) (by omega) (by omega) x0 ⟨⟨ct_lo _ _, ct_hi _ _⟩, (hvx.2.1 70 47)⟩ x2 x3 (by omega) (by omega) (by omega) x7 x8 (fun i a b q => by rcases Int.lt_or_eq_of_le (show i ≤ l6.toInt by omega) with z | z; (exact x9 i a z q); (rw [z] at q; exact absurd (show (v74 : Int32).toInt = 1 from by rw [v74x, v73x]; exact (sr_bit (by omega) (by omega)).mpr (by rw [v72w]; exact (tb_ks x0.1.2.2.2 _ _).mpr q)) (by omega))) (by omega))
          ·
            refine go_aload_n (pc := 149) rfl dX8_goes_149 ?_
            refine go_iload_n (pc := 150) rfl dX8_goes_150 ?_
            refine go_iload (pc := 151) rfl dX8_goes_151 ?_
            refine gf_isub (pc := 153) (ti_rfl l3) (ti_rfl l4) (by omega) (by omega) dX8_goes_153 (fun v79 e80 => ?_)
            refine go_iconst (pc := 154) (v := 1) (by decide) dX8_goes_154 ?_
            refine gf_iadd (pc := 155) e80 (ti_c (v := 1) (a := 1) (by decide)) (by omega) (by omega) dX8_goes_155 (fun v81 e82 => ?_)
            refine go_iload (pc := 156) rfl dX8_goes_156 ?_
            refine gf_iadd (pc := 158) e82 (ti_rfl l6) (by omega) (by omega) dX8_goes_158 (fun v83 e84 => ?_)
            have z85 : (v83 : Int32).toInt = (((l3.toInt - l4.toInt) + 1) + l6.toInt) := e84
            refine go_invV (pc := 159) (sl := 0) (s_X8_reach l (d + 1) hvx v83 (by rw [show (v83 : Int32).toInt = (((l3.toInt - l4.toInt) + 1) + l6.toInt) from e84]; omega) (by rw [show (v83 : Int32).toInt = (((l3.toInt - l4.toInt) + 1) + l6.toInt) from e84]; omega) x0.1.1) mL_X8_347 iM_X8_reach sM_X8_reach (hvx.sh rfl) rfl rfl rfl (Nat.le_of_ble_eq_true rfl) (show d + 1 + 2 + 1 ≤ d + 4 by omega) (show 8 + (2 + 11) + 40 * (d + 1 + 2) ≤ 40 * (d + 4) by omega) (g_c0 hvx.ln) (Nat.le_of_ble_eq_true rfl) dX8_goes_159 ?_
            intro r h86 hq _
            obtain ⟨rfl, hv86, f87⟩ := hq
            try rw [show (v83 : Int32).toInt = (((l3.toInt - l4.toInt) + 1) + l6.toInt) from e84] at f87
            have tbh : tb hx.2.1 (6 * l5.toInt + l4.toInt - 7) l6.toInt := by unfold tb; rw [← v72w]; exact (sr_bit (by omega) (by omega)).mp (by rw [← v73x, ← v74x]; omega)
            have tbe := (tb_ks x0.1.2.2.2 _ _).mp tbh
            obtain ⟨gq2, sx, sy2, su⟩ := GQ.reach x0 f87 (by omega) (by omega) (by omega) (by omega) (by omega) x2 (Or.inr ⟨by omega, x7.1, x7.2, by omega, l6.toInt, by omega, by omega, by rw [← x8, ← x4]; exact tbe, by omega⟩) (fun j => ⟨(hvx.2.1 110 j.toNat).1, by have q : V hx.2.1 110 j ≤ 584 := (hvx.2.1 110 j.toNat).2; omega⟩)
            have gqa := gq2.1.1
            have gqb := (RC.ph f87 (by omega) (by omega) x0.1.1).2.1
            refine gf_iinc (pc := 162) (Nat.le_of_ble_eq_true rfl) rfl (ti_rfl l6) (ti_c (by decide)) (by omega) (by omega) dX8_goes_162 (fun v88 e89 => ?_)
            refine go_lv (lv2 := [(0, .ref 70), (1, .int l1), (2, .int l2), (3, .int l3), (4, .int l4), (5, .int l5), (6, .int v88)]) rfl ?_
            refine go_goto (pc := 165) (tgt := 117) (by decide) dX8_goes_165 ?_
            have z90 : (v88 : Int32).toInt = (l6.toInt + 1) := e89
            exact go_lv rfl (ih.2.2.1 l1 l2 l3 l4 l5 v88 h86 hv86 (by omega) (by omega) (by omega) (by omega) (by omega) (by omega) (by omega) (by omega) (by omega) (by omega) (by omega) (by omega) gq2 ⟨⟨ct_lo _ _, ct_hi _ _⟩, (hv86.2.1 70 47)⟩ sy2 (fun x a b q => su x a (by omega) (x3 x a b q)) (by omega) (by omega) (by omega) x7 x8 (fun i a b q => by rcases Int.lt_or_eq_of_le (show i ≤ l6.toInt by omega) with z | z; (exact su _ (by omega) (by omega) (x9 i a z q)); (rw [z]; exact sx)) (by omega))
      ·
        intro l1 l2 l3 l4 s0 hx hvx l1l l1u l2l l2u l3l l3u l4l l4u s0l s0u x0 x1 x2 hm
        obtain ⟨u70_47, u70_47w⟩ : ∃ v : Int32, v = hx.2.1 70 47 := ⟨_, rfl⟩
        have u70_47e : (hx.2.1 70 47).toInt = u70_47.toInt := by rw [u70_47w]
        have u70_47l : 0 ≤ u70_47.toInt := by rw [u70_47w]; exact (hvx.2.1 70 47).1
        have u70_47u : u70_47.toInt ≤ 585 := by rw [u70_47w]; exact (hvx.2.1 70 47).2
        have x0a := x0.1.1
        have x0b := x0.1.2.1
        have gdn := GQ.done x0 x2
        refine gf_if_eq (pc := 184) (tgt := 215) (ti_rfl s0) (by decide) dX8_goes_184 (fun q91 => ?_) (fun q91 => False.elim (by omega))
        refine go_goto (pc := 215) (tgt := 0) (by decide) dX8_goes_215 ?_
        exact go_lv rfl (ih.1 l1 l2 hx hvx (by omega) (by omega) (by omega) (by omega) gdn ⟨⟨ct_lo _ _, ct_hi _ _⟩, (hvx.2.1 70 47)⟩ (by omega))
  have c0 := ct_lo h.2.1 109
  have w0 : WT h.2.1 ≤ 585 := (hv.2.1 70 47).2
  exact go_lv rfl ((key 2200001).1 a2 a3 h hv (by omega) (by omega) (by omega) (by omega) (GQ.init hw hq.1 hq.2) ⟨⟨ct_lo _ _, ct_hi _ _⟩, (hv.2.1 70 47)⟩ (by omega))
