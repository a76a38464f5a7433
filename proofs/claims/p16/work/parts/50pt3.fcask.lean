def f_X4_completeCalls2_ : Nat → Nat → Int → Int → Int → ST → ST × Int
  | 0, _, _, _, _, sx => (sx, 0)
  | n + 1, lab, l1, l2, l3, sx => if lab = 4 then (bd (sx.2.2 49 1) fun c1 => bd (sx.1 c1 1) fun v3 => if v3 ≤ l2 then ((sx, l1)) else (f_X4_completeCalls2_ n 17 l1 l2 1 sx)) else if 7 ≤ l3 then (f_X4_completeCalls2_ n 4 l1 ((l2 + 1)) 0 sx) else (bd (sx.2.1 53 (l3).toNat) fun v15 => bd (f_X7_has sx v15 ((40 + l2))) fun v21 => if v21 = 0 then (f_X4_completeCalls2_ n 17 l1 l2 ((l3 + 1)) sx) else (bd (sx.2.1 50 (l2).toNat) fun v29 => bd (sx.2.1 53 (0 : Int).toNat) fun v31 => bd (o_land v29 v31) fun v33 => bd (sx.2.1 52 (l3).toNat) fun v35 => bd (o_lxor v35 ((-1) : Int64)) fun v37 => bd (o_land v33 v37) fun v39 => bd (f_X4_add2 sx 52 l3 v39) fun s41 => bd (o_lcmp v39 (0 : Int64)) fun v45 => if v45 = 0 then (bd (o_ior l1 0) fun v49 => f_X4_completeCalls2_ n 17 v49 l2 ((l3 + 1)) s41) else (bd (o_ior l1 1) fun v55 => f_X4_completeCalls2_ n 17 v55 l2 ((l3 + 1)) s41)))
def f_X4_completeCalls2 (s : ST) : ST × Int :=
  f_X4_completeCalls2_ 202 4 0 0 0 s
set_option maxHeartbeats 4000000 in
set_option maxRecDepth 100000 in
theorem s_X4_completeCalls2_f (l : Launch) (d : Nat) {P : PP} {h : HP} (hv : Iv P h)  : Mt l yX4_completeCalls cX4_completeCalls 6 (some .boolean) (d + 2) [.ref 49] h 0 0 (fun r h' => ∃ v : Int32, r = some (.int v) ∧ 0 ≤ v.toInt ∧ v.toInt ≤ 1 ∧ Iv P h' ∧ ((st h', v.toInt) = f_X4_completeCalls2 (st h)) ∧ (FX KQ h h')) := by
  refine Mt_iv hv (by decide) (Nat.le_of_ble_eq_true rfl) ?_
  show Go l RX4 cX4_completeCalls 6 (g_rm (d + 2) 0 0) "completeCalls" (some .boolean) 117 0 0 (fun _ _ => True) (fun r h' => ∃ v : Int32, r = some (.int v) ∧ 0 ≤ v.toInt ∧ v.toInt ≤ 1 ∧ Iv P h' ∧ ((st h', v.toInt) = f_X4_completeCalls2 (st h)) ∧ (FX KQ h h')) 0 0 [(0, .ref 49)] [] h
  have fx : FX KQ h h := FX.rfl
  obtain ⟨fin, kf⟩ : ∃ z, z = f_X4_completeCalls2 (st h) := ⟨_, _root_.rfl⟩
  have k0 := kf
  unfold f_X4_completeCalls2 at k0
  have key : ∀ n : Nat, (∀ (l1 : Int32) (l2 : Int32) (hx : HP), Iv P hx → 0 ≤ l1.toInt → l1.toInt ≤ 1 → 0 ≤ l2.toInt → l2.toInt ≤ 5 → FX KQ h hx → fin = f_X4_completeCalls2_ n 4 l1.toInt l2.toInt 0 (st hx) → (27 * (5 - l2.toInt) + 26 : Int) < n → Go l RX4 cX4_completeCalls 6 (g_rm (d + 2) 0 0) "completeCalls" (some .boolean) 117 0 0 (fun _ _ => True) (fun r h' => ∃ v : Int32, r = some (.int v) ∧ 0 ≤ v.toInt ∧ v.toInt ≤ 1 ∧ Iv P h' ∧ ((st h', v.toInt) = f_X4_completeCalls2 (st h)) ∧ (FX KQ h h')) 0 4 [(0, .ref 49), (1, .int l1), (2, .int l2)] [] hx) ∧ (∀ (l1 : Int32) (l2 : Int32) (l3 : Int32) (hx : HP), Iv P hx → 0 ≤ l1.toInt → l1.toInt ≤ 1 → 0 ≤ l2.toInt → l2.toInt ≤ 4 → 1 ≤ l3.toInt → l3.toInt ≤ 7 → FX KQ h hx → fin = f_X4_completeCalls2_ n 17 l1.toInt l2.toInt l3.toInt (st hx) → (3 * (7 - l3.toInt) + 27 * (5 - l2.toInt) + 3 : Int) < n → Go l RX4 cX4_completeCalls 6 (g_rm (d + 2) 0 0) "completeCalls" (some .boolean) 117 0 0 (fun _ _ => True) (fun r h' => ∃ v : Int32, r = some (.int v) ∧ 0 ≤ v.toInt ∧ v.toInt ≤ 1 ∧ Iv P h' ∧ ((st h', v.toInt) = f_X4_completeCalls2 (st h)) ∧ (FX KQ h h')) 0 17 [(0, .ref 49), (1, .int l1), (2, .int l2), (3, .int l3)] [] hx) := by
    intro n
    induction n with
    | zero => exact ⟨(by intros; omega), (by intros; omega)⟩
    | succ n ih =>
      refine ⟨?_, ?_⟩
      ·
        intro l1 l2 hx hvx l1l l1u l2l l2u fxx kL hm
        rw [f_X4_completeCalls2_] at kL
        replace kL := if_t kL _root_.rfl
        refine go_iload_n (pc := 4) rfl dX4_completeCalls_4 ?_
        refine go_aload_n (pc := 5) rfl dX4_completeCalls_5 ?_
        refine gi_getC (pc := 6) hvx fL_X4_58 rfl (Nat.le_of_ble_eq_true rfl) rfl (by decide) dX4_completeCalls_6 (fun c1 hc1 fc1 => ?_)
        have k2 := bd_e kL (st_c fc1)
        refine gi_get (pc := 9) (lo := 0) (hi := 5) hvx fL_X4_65 (by rcases hc1 with rfl | rfl <;> rfl) (Nat.le_of_ble_eq_true rfl) rfl (by rcases hc1 with rfl | rfl <;> rfl) dX4_completeCalls_9 (fun v3 v3l v3u v3w => ?_)
        have k4 := bd_e k2 (congrArg Int32.toInt v3w.symm)
        refine gf_icmp_ge (pc := 12) (tgt := 103) (ti_rfl l2) (ti_rfl v3) (by decide) dX4_completeCalls_12 (fun q5 => ?_) (fun q5 => ?_)
        ·
          have k6 := if_t k4 q5
          refine go_iload_n (pc := 103) rfl dX4_completeCalls_103 ?_
          exact gi_zret (pc := 104) (ti_rfl l1) (by omega) (by omega) ⟨_, rfl, (by rw [show (l1 : Int32).toInt = l1.toInt from (ti_rfl l1)]; omega), (by rw [show (l1 : Int32).toInt = l1.toInt from (ti_rfl l1)]; omega), hvx, (k6.symm.trans kf), fxx⟩ hvx dX4_completeCalls_104
        ·
          have k7 := if_f k4 (Int.not_le.mpr q5)
          refine go_iconst (pc := 15) (v := 1) (by decide) dX4_completeCalls_15 ?_
          refine go_istore_n (pc := 16) (Nat.le_of_ble_eq_true rfl) dX4_completeCalls_16 (go_lv (lv2 := [(0, .ref 49), (1, .int l1), (2, .int l2), (3, .int 1)]) rfl ?_)
          have z8 : (1 : Int32).toInt = 1 := (ti_c (v := 1) (a := 1) (by decide))
          exact go_lv rfl (ih.2 l1 l2 1 hx hvx (by omega) (by omega) (by omega) (by omega) (by omega) (by omega) fxx (by rw [show (1 : Int32).toInt = 1 from (ti_c (v := 1) (a := 1) (by decide))]; exact k7) (by omega))
      ·
        intro l1 l2 l3 hx hvx l1l l1u l2l l2u l3l l3u fxx kL hm
        rw [f_X4_completeCalls2_] at kL
        replace kL := if_f kL (by decide)
        refine go_iload_n (pc := 17) rfl dX4_completeCalls_17 ?_
        refine go_bipush (pc := 18) (v := 7) (by decide) dX4_completeCalls_18 ?_
        refine gf_icmp_ge (pc := 20) (tgt := 97) (ti_rfl l3) (ti_c (v := 7) (a := 7) (by decide)) (by decide) dX4_completeCalls_20 (fun q9 => ?_) (fun q9 => ?_)
        ·
          have k10 := if_t kL q9
          refine gf_iinc (pc := 97) (Nat.le_of_ble_eq_true rfl) rfl (ti_rfl l2) (ti_c (by decide)) (by omega) (by omega) dX4_completeCalls_97 (fun v11 e12 => ?_)
          refine go_lv (lv2 := [(0, .ref 49), (1, .int l1), (2, .int v11), (3, .int l3)]) rfl ?_
          refine go_goto (pc := 100) (tgt := 4) (by decide) dX4_completeCalls_100 ?_
          have z13 : (v11 : Int32).toInt = (l2.toInt + 1) := e12
          exact go_lv rfl (ih.1 l1 v11 hx hvx (by omega) (by omega) (by omega) (by omega) fxx (by rw [show (v11 : Int32).toInt = (l2.toInt + 1) from e12]; exact k10) (by omega))
        ·
          have k14 := if_f kL (Int.not_le.mpr q9)
          refine go_aload_n (pc := 23) rfl dX4_completeCalls_23 ?_
          refine gi_getF (pc := 24) (q := 53) hvx fL_X4_26 rfl (Nat.le_of_ble_eq_true rfl) rfl (hvx.rf (by decide)) dX4_completeCalls_24 ?_
          refine go_iload_n (pc := 27) rfl dX4_completeCalls_27 ?_
          refine gi_lald (pc := 28) (len := 13) hvx (ti_rfl l3) rfl (by omega) (by omega) dX4_completeCalls_28 (fun v15 v15w => ?_)
          have k16 := bd_e k14 v15w.symm
          refine go_bipush (pc := 29) (v := 40) (by decide) dX4_completeCalls_29 ?_
          refine go_iload_n (pc := 31) rfl dX4_completeCalls_31 ?_
          refine gf_iadd (pc := 32) (ti_c (v := 40) (a := 40) (by decide)) (ti_rfl l2) (by omega) (by omega) dX4_completeCalls_32 (fun v17 e18 => ?_)
          refine go_invS (pc := 33) (sl := 0) (s_X7_has_f l (d + 0) hvx v15 v17) mL_X4_102 iM_X7_has rfl rfl (Nat.le_of_ble_eq_true rfl) (show d + 0 + 1 + 1 ≤ d + 2 by omega) (show 8 + (3 + 11) + 40 * (d + 0 + 1) ≤ 40 * (d + 2) by omega) (g_c0 hvx.ln) (Nat.le_of_ble_eq_true rfl) dX4_completeCalls_33 ?_
          intro r h19 hq _
          obtain ⟨v21, rfl, v21l, v21u, rfl, f20⟩ := hq
          try rw [show (v17 : Int32).toInt = (40 + l2.toInt) from e18] at f20
          replace f20 : PE _ _ := f20
          have k22 := bd_e k16 f20.symm
          refine gf_if_eq (pc := 36) (tgt := 91) (ti_rfl v21) (by decide) dX4_completeCalls_36 (fun q23 => ?_) (fun q23 => ?_)
          ·
            have k24 := if_t k22 q23
            refine gf_iinc (pc := 91) (Nat.le_of_ble_eq_true rfl) rfl (ti_rfl l3) (ti_c (by decide)) (by omega) (by omega) dX4_completeCalls_91 (fun v25 e26 => ?_)
            refine go_lv (lv2 := [(0, .ref 49), (1, .int l1), (2, .int l2), (3, .int v25)]) rfl ?_
            refine go_goto (pc := 94) (tgt := 17) (by decide) dX4_completeCalls_94 ?_
            have z27 : (v25 : Int32).toInt = (l3.toInt + 1) := e26
            exact go_lv rfl (ih.2 l1 l2 v25 hx hvx (by omega) (by omega) (by omega) (by omega) (by omega) (by omega) fxx (by rw [show (v25 : Int32).toInt = (l3.toInt + 1) from e26]; exact k24) (by omega))
          ·
            have k28 := if_f k22 q23
            refine go_aload_n (pc := 39) rfl dX4_completeCalls_39 ?_
            refine gi_getF (pc := 40) (q := 50) hvx fL_X4_15 rfl (Nat.le_of_ble_eq_true rfl) rfl (hvx.rf (by decide)) dX4_completeCalls_40 ?_
            refine go_iload_n (pc := 43) rfl dX4_completeCalls_43 ?_
            refine gi_lald (pc := 44) (len := 5) hvx (ti_rfl l2) rfl (by omega) (by omega) dX4_completeCalls_44 (fun v29 v29w => ?_)
            have k30 := bd_e k28 v29w.symm
            refine go_aload_n (pc := 45) rfl dX4_completeCalls_45 ?_
            refine gi_getF (pc := 46) (q := 53) hvx fL_X4_26 rfl (Nat.le_of_ble_eq_true rfl) rfl (hvx.rf (by decide)) dX4_completeCalls_46 ?_
            refine go_iconst (pc := 49) (v := 0) (by decide) dX4_completeCalls_49 ?_
            refine gi_lald (pc := 50) (len := 13) hvx (ti_c (v := 0) (a := 0) (by decide)) rfl (by omega) (by omega) dX4_completeCalls_50 (fun v31 v31w => ?_)
            have k32 := bd_e k30 v31w.symm
            refine gx_land (pc := 51) dX4_completeCalls_51 (fun v33 v33x => ?_)
            have k34 := bd_e k32 (so_land v33x)
            refine go_aload_n (pc := 52) rfl dX4_completeCalls_52 ?_
            refine gi_getF (pc := 53) (q := 52) hvx fL_X4_23 rfl (Nat.le_of_ble_eq_true rfl) rfl (hvx.rf (by decide)) dX4_completeCalls_53 ?_
            refine go_iload_n (pc := 56) rfl dX4_completeCalls_56 ?_
            refine gi_lald (pc := 57) (len := 13) hvx (ti_rfl l3) rfl (by omega) (by omega) dX4_completeCalls_57 (fun v35 v35w => ?_)
            have k36 := bd_e k34 v35w.symm
            refine go_ldc2 (pc := 58) kL_X4_109 dX4_completeCalls_58 ?_
            refine gx_lxor (pc := 61) dX4_completeCalls_61 (fun v37 v37x => ?_)
            have k38 := bd_e k36 (so_lxor v37x)
            refine gx_land (pc := 62) dX4_completeCalls_62 (fun v39 v39x => ?_)
            have k40 := bd_e k38 (so_land v39x)
            refine go_lstore (pc := 63) (Nat.le_of_ble_eq_true rfl) dX4_completeCalls_63 (go_lv (lv2 := [(0, .ref 49), (1, .int l1), (2, .int l2), (3, .int l3), (4, .long v39)]) rfl ?_)
            refine go_aload_n (pc := 65) rfl dX4_completeCalls_65 ?_
            refine go_aload_n (pc := 66) rfl dX4_completeCalls_66 ?_
            refine gi_getF (pc := 67) (q := 52) hvx fL_X4_23 rfl (Nat.le_of_ble_eq_true rfl) rfl (hvx.rf (by decide)) dX4_completeCalls_67 ?_
            refine go_iload_n (pc := 70) rfl dX4_completeCalls_70 ?_
            refine go_lload (pc := 71) rfl dX4_completeCalls_71 ?_
            refine go_invV (pc := 73) (sl := 0) (s_X4_add2_f l (d + 0) hvx 52 (by decide) l3 (by rw [show (l3 : Int32).toInt = l3.toInt from (ti_rfl l3)]; omega) (by rw [show (l3 : Int32).toInt = l3.toInt from (ti_rfl l3)]; omega) v39) mL_X4_94 iM_X4_add sM_X4_add (hvx.sh rfl) rfl rfl rfl (Nat.le_of_ble_eq_true rfl) (show d + 0 + 1 + 1 ≤ d + 2 by omega) (show 8 + (8 + 11) + 40 * (d + 0 + 1) ≤ 40 * (d + 2) by omega) (g_c0 hvx.ln) (Nat.le_of_ble_eq_true rfl) dX4_completeCalls_73 ?_
            intro r h41 hq _
            obtain ⟨rfl, hv41, f42, f43⟩ := hq
            have fx41 : FX KQ h h41 := FX.tr fxx f43
            have k44 := bd_e k40 f42.symm
            refine go_iload_n (pc := 76) rfl dX4_completeCalls_76 ?_
            refine go_lload (pc := 77) rfl dX4_completeCalls_77 ?_
            refine go_lconst (pc := 79) (v := 0) (by decide) dX4_completeCalls_79 ?_
            refine gx_lcmp (pc := 80) dX4_completeCalls_80 (fun v45 v45x => ?_)
            have k46 := bd_e k44 (so_lcmp v45x)
            refine gf_if_eq (pc := 81) (tgt := 88) (ti_rfl v45) (by decide) dX4_completeCalls_81 (fun q47 => ?_) (fun q47 => ?_)
            ·
              have k48 := if_t k46 q47
              refine go_iconst (pc := 88) (v := 0) (by decide) dX4_completeCalls_88 ?_
              refine gx_ior (pc := 89) dX4_completeCalls_89 (fun v49 v49x => ?_)
              have v49l : 0 ≤ v49.toInt := by rw [v49x]; exact (ti_orB (ti_rfl l1) (ti_c (v := 0) (a := 0) (by decide)) (by omega) (by omega) (by omega) (by omega)).1
              have v49u : v49.toInt ≤ 1 := by rw [v49x]; exact (ti_orB (ti_rfl l1) (ti_c (v := 0) (a := 0) (by decide)) (by omega) (by omega) (by omega) (by omega)).2
              have k50 := bd_e k48 (so_ior (ti_rfl l1) (ti_c (v := 0) (a := 0) (by decide)) v49x)
              refine go_istore_n (pc := 90) (Nat.le_of_ble_eq_true rfl) dX4_completeCalls_90 (go_lv (lv2 := [(0, .ref 49), (1, .int v49), (2, .int l2), (3, .int l3), (4, .long v39)]) rfl ?_)
              refine gf_iinc (pc := 91) (Nat.le_of_ble_eq_true rfl) rfl (ti_rfl l3) (ti_c (by decide)) (by omega) (by omega) dX4_completeCalls_91 (fun v51 e52 => ?_)
              refine go_lv (lv2 := [(0, .ref 49), (1, .int v49), (2, .int l2), (3, .int v51), (4, .long v39)]) rfl ?_
              refine go_goto (pc := 94) (tgt := 17) (by decide) dX4_completeCalls_94 ?_
              have z53 : (v51 : Int32).toInt = (l3.toInt + 1) := e52
              exact go_lv rfl (ih.2 v49 l2 v51 h41 hv41 (by omega) (by omega) (by omega) (by omega) (by omega) (by omega) fx41 (by rw [show (v51 : Int32).toInt = (l3.toInt + 1) from e52]; exact k50) (by omega))
            ·
              have k54 := if_f k46 q47
              refine go_iconst (pc := 84) (v := 1) (by decide) dX4_completeCalls_84 ?_
              refine go_goto (pc := 85) (tgt := 89) (by decide) dX4_completeCalls_85 ?_
              refine gx_ior (pc := 89) dX4_completeCalls_89 (fun v55 v55x => ?_)
              have v55l : 0 ≤ v55.toInt := by rw [v55x]; exact (ti_orB (ti_rfl l1) (ti_c (v := 1) (a := 1) (by decide)) (by omega) (by omega) (by omega) (by omega)).1
              have v55u : v55.toInt ≤ 1 := by rw [v55x]; exact (ti_orB (ti_rfl l1) (ti_c (v := 1) (a := 1) (by decide)) (by omega) (by omega) (by omega) (by omega)).2
              have k56 := bd_e k54 (so_ior (ti_rfl l1) (ti_c (v := 1) (a := 1) (by decide)) v55x)
              refine go_istore_n (pc := 90) (Nat.le_of_ble_eq_true rfl) dX4_completeCalls_90 (go_lv (lv2 := [(0, .ref 49), (1, .int v55), (2, .int l2), (3, .int l3), (4, .long v39)]) rfl ?_)
              refine gf_iinc (pc := 91) (Nat.le_of_ble_eq_true rfl) rfl (ti_rfl l3) (ti_c (by decide)) (by omega) (by omega) dX4_completeCalls_91 (fun v57 e58 => ?_)
              refine go_lv (lv2 := [(0, .ref 49), (1, .int v55), (2, .int l2), (3, .int v57), (4, .long v39)]) rfl ?_
              refine go_goto (pc := 94) (tgt := 17) (by decide) dX4_completeCalls_94 ?_
              have z59 : (v57 : Int32).toInt = (l3.toInt + 1) := e58
              exact go_lv rfl (ih.2 v55 l2 v57 h41 hv41 (by omega) (by omega) (by omega) (by omega) (by omega) (by omega) fx41 (by rw [show (v57 : Int32).toInt = (l3.toInt + 1) from e58]; exact k56) (by omega))
  refine go_iconst (pc := 0) (v := 0) (by decide) dX4_completeCalls_0 ?_
  refine go_istore_n (pc := 1) (Nat.le_of_ble_eq_true rfl) dX4_completeCalls_1 (go_lv (lv2 := [(0, .ref 49), (1, .int 0)]) rfl ?_)
  refine go_iconst (pc := 2) (v := 0) (by decide) dX4_completeCalls_2 ?_
  refine go_istore_n (pc := 3) (Nat.le_of_ble_eq_true rfl) dX4_completeCalls_3 (go_lv (lv2 := [(0, .ref 49), (1, .int 0), (2, .int 0)]) rfl ?_)
  have z60 : (0 : Int32).toInt = 0 := (ti_c (v := 0) (a := 0) (by decide))
  have z61 : (0 : Int32).toInt = 0 := (ti_c (v := 0) (a := 0) (by decide))
  exact go_lv rfl ((key 202).1 0 0 h hv (by omega) (by omega) (by omega) (by omega) fx (by rw [show (0 : Int32).toInt = 0 from (ti_c (v := 0) (a := 0) (by decide))]; exact k0) (by omega))
def f_X4_findKept2_ : Nat → Nat → Int → Int → ST → ST × Int64
  | 0, _, _, _, sx => (sx, 0)
  | n + 1, _, l2, l3, sx => if 240 < l3 then (bd (f_X4_statementsFound2 sx) fun v5 => (sx, v5)) else (if l2 = 0 then (bd (f_X4_statementsFound2 sx) fun v12 => (sx, v12)) else (bd2 (f_X4_completeCalls2 sx) fun s15 v18 => bd (f_X4_findOn2 s15) fun s20 => f_X4_findKept2_ n 13 v18 ((l3 + 1)) s20))
def f_X4_findKept2 (s : ST) (a2 : Int) : ST × Int64 :=
  bd (f_X4_beginFrom2 s a2) fun s27 => bd (f_X4_findOn2 s27) fun s31 => f_X4_findKept2_ 796 13 1 0 s31
set_option maxHeartbeats 4000000 in
set_option maxRecDepth 100000 in
theorem s_X4_findKept2_f (l : Launch) (d : Nat) {P : PP} {h : HP} (hv : Iv P h) (a2 : Int32) (a2l : 0 ≤ a2.toInt) (a2u : a2.toInt ≤ 39) : Mt l yX4_findKept cX4_findKept 4 (some .long) (d + 5) [.ref 49, .int a2] h 0 0 (fun r h' => ∃ v : Int64, r = some (.long v) ∧ Iv P h' ∧ ((st h', v) = f_X4_findKept2 (st h) a2.toInt) ∧ (FX KQ h h')) := by
  refine Mt_iv hv (by decide) (Nat.le_of_ble_eq_true rfl) ?_
  show Go l RX4 cX4_findKept 4 (g_rm (d + 5) 0 0) "findKept" (some .long) 117 0 0 (fun _ _ => True) (fun r h' => ∃ v : Int64, r = some (.long v) ∧ Iv P h' ∧ ((st h', v) = f_X4_findKept2 (st h) a2.toInt) ∧ (FX KQ h h')) 0 0 [(0, .ref 49), (1, .int a2)] [] h
  have fx : FX KQ h h := FX.rfl
  obtain ⟨fin, kf⟩ : ∃ z, z = f_X4_findKept2 (st h) a2.toInt := ⟨_, _root_.rfl⟩
  have k0 := kf
  unfold f_X4_findKept2 at k0
  have key : ∀ n : Nat, (∀ (l2 : Int32) (l3 : Int32) (hx : HP), Iv P hx → 0 ≤ l2.toInt → l2.toInt ≤ 1 → 0 ≤ l3.toInt → l3.toInt ≤ 259 → FX KQ h hx → fin = f_X4_findKept2_ n 13 l2.toInt l3.toInt (st hx) → (3 * (259 - l3.toInt) + 2 : Int) < n → Go l RX4 cX4_findKept 4 (g_rm (d + 5) 0 0) "findKept" (some .long) 117 0 0 (fun _ _ => True) (fun r h' => ∃ v : Int64, r = some (.long v) ∧ Iv P h' ∧ ((st h', v) = f_X4_findKept2 (st h) a2.toInt) ∧ (FX KQ h h')) 0 13 [(0, .ref 49), (2, .int l2), (3, .int l3)] [] hx) := by
    intro n
    induction n with
    | zero => exact (by intros; omega)
    | succ n ih =>
      refine ?_
      ·
        intro l2 l3 hx hvx l2l l2u l3l l3u fxx kL hm
        rw [f_X4_findKept2_] at kL
        refine go_iload_n (pc := 13) rfl dX4_findKept_13 ?_
        refine go_sipush (pc := 14) (v := 240) (by decide) dX4_findKept_14 ?_
        refine gf_icmp_gt (pc := 17) (tgt := 39) (ti_rfl l3) (ti_c (v := 240) (a := 240) (by decide)) (by decide) dX4_findKept_17 (fun q1 => ?_) (fun q1 => ?_)
        ·
          have k2 := if_t kL q1
          refine go_aload_n (pc := 39) rfl dX4_findKept_39 ?_
          refine go_invV (pc := 40) (sl := 0) (s_X4_statementsFound2_f l (d + 3) hvx ) mL_X4_136 iM_X4_statementsFound sM_X4_statementsFound (hvx.sh rfl) rfl rfl rfl (Nat.le_of_ble_eq_true rfl) (show d + 3 + 1 + 1 ≤ d + 5 by omega) (show 8 + (4 + 11) + 40 * (d + 3 + 1) ≤ 40 * (d + 5) by omega) (g_c0 hvx.ln) (Nat.le_of_ble_eq_true rfl) dX4_findKept_40 ?_
          intro r h3 hq _
          obtain ⟨v5, rfl, rfl, f4⟩ := hq
          have k6 := bd_e k2 f4.symm
          exact gi_lret (pc := 43) ⟨_, rfl, hvx, (k6.symm.trans kf), fxx⟩ hvx dX4_findKept_43
        ·
          have k7 := if_f kL (Int.not_lt.mpr q1)
          refine go_iload_n (pc := 20) rfl dX4_findKept_20 ?_
          refine gf_if_eq (pc := 21) (tgt := 39) (ti_rfl l2) (by decide) dX4_findKept_21 (fun q8 => ?_) (fun q8 => ?_)
          ·
            have k9 := if_t k7 q8
            refine go_aload_n (pc := 39) rfl dX4_findKept_39 ?_
            refine go_invV (pc := 40) (sl := 0) (s_X4_statementsFound2_f l (d + 3) hvx ) mL_X4_136 iM_X4_statementsFound sM_X4_statementsFound (hvx.sh rfl) rfl rfl rfl (Nat.le_of_ble_eq_true rfl) (show d + 3 + 1 + 1 ≤ d + 5 by omega) (show 8 + (4 + 11) + 40 * (d + 3 + 1) ≤ 40 * (d + 5) by omega) (g_c0 hvx.ln) (Nat.le_of_ble_eq_true rfl) dX4_findKept_40 ?_
            intro r h10 hq _
            obtain ⟨v12, rfl, rfl, f11⟩ := hq
            have k13 := bd_e k9 f11.symm
            exact gi_lret (pc := 43) ⟨_, rfl, hvx, (k13.symm.trans kf), fxx⟩ hvx dX4_findKept_43
          ·
            have k14 := if_f k7 q8
            refine go_aload_n (pc := 24) rfl dX4_findKept_24 ?_
            refine go_invV (pc := 25) (sl := 0) (s_X4_completeCalls2_f l (d + 2) hvx ) mL_X4_149 iM_X4_completeCalls sM_X4_completeCalls (hvx.sh rfl) rfl rfl rfl (Nat.le_of_ble_eq_true rfl) (show d + 2 + 2 + 1 ≤ d + 5 by omega) (show 8 + (6 + 11) + 40 * (d + 2 + 2) ≤ 40 * (d + 5) by omega) (g_c0 hvx.ln) (Nat.le_of_ble_eq_true rfl) dX4_findKept_25 ?_
            intro r h15 hq _
            obtain ⟨v18, rfl, v18l, v18u, hv15, f16, f17⟩ := hq
            have fx15 : FX KQ h h15 := FX.tr fxx f17
            have k19 := bd2_e k14 f16
            refine go_istore_n (pc := 28) (Nat.le_of_ble_eq_true rfl) dX4_findKept_28 (go_lv (lv2 := [(0, .ref 49), (2, .int v18), (3, .int l3)]) rfl ?_)
            refine go_aload_n (pc := 29) rfl dX4_findKept_29 ?_
            refine go_invV (pc := 30) (sl := 0) (s_X4_findOn2_f l (d + 0) hv15 ) mL_X4_133 iM_X4_findOn sM_X4_findOn (hv15.sh rfl) rfl rfl rfl (Nat.le_of_ble_eq_true rfl) (show d + 0 + 4 + 1 ≤ d + 5 by omega) (show 8 + (2 + 11) + 40 * (d + 0 + 4) ≤ 40 * (d + 5) by omega) (g_c0 hv15.ln) (Nat.le_of_ble_eq_true rfl) dX4_findKept_30 ?_
            intro r h20 hq _
            obtain ⟨rfl, hv20, f21, f22⟩ := hq
            have fx20 : FX KQ h h20 := FX.tr fx15 f22
            have k23 := bd_e k19 f21.symm
            refine gf_iinc (pc := 33) (Nat.le_of_ble_eq_true rfl) rfl (ti_rfl l3) (ti_c (by decide)) (by omega) (by omega) dX4_findKept_33 (fun v24 e25 => ?_)
            refine go_lv (lv2 := [(0, .ref 49), (2, .int v18), (3, .int v24)]) rfl ?_
            refine go_goto (pc := 36) (tgt := 13) (by decide) dX4_findKept_36 ?_
            have z26 : (v24 : Int32).toInt = (l3.toInt + 1) := e25
            exact go_lv rfl (ih v18 v24 h20 hv20 (by omega) (by omega) (by omega) (by omega) fx20 (by rw [show (v24 : Int32).toInt = (l3.toInt + 1) from e25]; exact k23) (by omega))
  refine go_aload_n (pc := 0) rfl dX4_findKept_0 ?_
  refine go_iload_n (pc := 1) rfl dX4_findKept_1 ?_
  refine go_invV (pc := 2) (sl := 0) (s_X4_beginFrom2_f l (d + 1) hv a2 (by rw [show (a2 : Int32).toInt = a2.toInt from (ti_rfl a2)]; omega) (by rw [show (a2 : Int32).toInt = a2.toInt from (ti_rfl a2)]; omega)) mL_X4_129 iM_X4_beginFrom sM_X4_beginFrom (hv.sh rfl) rfl rfl rfl (Nat.le_of_ble_eq_true rfl) (show d + 1 + 3 + 1 ≤ d + 5 by omega) (show 8 + (4 + 11) + 40 * (d + 1 + 3) ≤ 40 * (d + 5) by omega) (g_c0 hv.ln) (Nat.le_of_ble_eq_true rfl) dX4_findKept_2 ?_
  intro r h27 hq _
  obtain ⟨rfl, hv27, f28, f29⟩ := hq
  have fx27 : FX KQ h h27 := FX.tr fx f29
  have k30 := bd_e k0 f28.symm
  refine go_aload_n (pc := 5) rfl dX4_findKept_5 ?_
  refine go_invV (pc := 6) (sl := 0) (s_X4_findOn2_f l (d + 0) hv27 ) mL_X4_133 iM_X4_findOn sM_X4_findOn (hv27.sh rfl) rfl rfl rfl (Nat.le_of_ble_eq_true rfl) (show d + 0 + 4 + 1 ≤ d + 5 by omega) (show 8 + (2 + 11) + 40 * (d + 0 + 4) ≤ 40 * (d + 5) by omega) (g_c0 hv27.ln) (Nat.le_of_ble_eq_true rfl) dX4_findKept_6 ?_
  intro r h31 hq _
  obtain ⟨rfl, hv31, f32, f33⟩ := hq
  have fx31 : FX KQ h h31 := FX.tr fx27 f33
  have k34 := bd_e k30 f32.symm
  refine go_iconst (pc := 9) (v := 1) (by decide) dX4_findKept_9 ?_
  refine go_istore_n (pc := 10) (Nat.le_of_ble_eq_true rfl) dX4_findKept_10 (go_lv (lv2 := [(0, .ref 49), (1, .int a2), (2, .int 1)]) rfl ?_)
  refine go_iconst (pc := 11) (v := 0) (by decide) dX4_findKept_11 ?_
  refine go_istore_n (pc := 12) (Nat.le_of_ble_eq_true rfl) dX4_findKept_12 (go_lv (lv2 := [(0, .ref 49), (1, .int a2), (2, .int 1), (3, .int 0)]) rfl ?_)
  have z35 : (1 : Int32).toInt = 1 := (ti_c (v := 1) (a := 1) (by decide))
  have z36 : (0 : Int32).toInt = 0 := (ti_c (v := 0) (a := 0) (by decide))
  exact go_lv rfl ((key 796) 1 0 h31 hv31 (by omega) (by omega) (by omega) (by omega) fx31 (by rw [show (1 : Int32).toInt = 1 from (ti_c (v := 1) (a := 1) (by decide)), show (0 : Int32).toInt = 0 from (ti_c (v := 0) (a := 0) (by decide))]; exact k34) (by omega))
def f_X4_keptFor2 (s : ST) (a2 : Int) : ST × Int64 :=
  bd (s.2.1 49 12) fun v1 => bd (f_X7_has s v1 a2) fun v5 => if ¬ v5 = 0 then (bd (s.2.1 56 (a2).toNat) fun v9 => (s, v9)) else (bd2 (f_X4_findKept2 s a2) fun s12 v15 => bd (sL s12 56 (a2).toNat v15) fun s17 => bd (s17.2.1 49 12) fun v19 => bd (f_X7_bit s17 a2) fun v23 => bd (o_lor v19 v23) fun v25 => bd (sL s17 49 12 v25) fun s27 => bd (s27.2.1 56 (a2).toNat) fun v29 => (s27, v29))
set_option maxHeartbeats 4000000 in
set_option maxRecDepth 100000 in
theorem s_X4_keptFor2_f (l : Launch) (d : Nat) {P : PP} {h : HP} (hv : Iv P h) (a2 : Int32) (a2l : 0 ≤ a2.toInt) (a2u : a2.toInt ≤ 39) : Mt l yX4_keptFor cX4_keptFor 2 (some .long) (d + 6) [.ref 49, .int a2] h 0 0 (fun r h' => ∃ v : Int64, r = some (.long v) ∧ Iv P h' ∧ ((st h', v) = f_X4_keptFor2 (st h) a2.toInt) ∧ (FX KKF h h')) := by
  refine Mt_iv hv (by decide) (Nat.le_of_ble_eq_true rfl) ?_
  show Go l RX4 cX4_keptFor 2 (g_rm (d + 6) 0 0) "keptFor" (some .long) 117 0 0 (fun _ _ => True) (fun r h' => ∃ v : Int64, r = some (.long v) ∧ Iv P h' ∧ ((st h', v) = f_X4_keptFor2 (st h) a2.toInt) ∧ (FX KKF h h')) 0 0 [(0, .ref 49), (1, .int a2)] [] h
  have fx : FX KKF h h := FX.rfl
  obtain ⟨fin, kf⟩ : ∃ z, z = f_X4_keptFor2 (st h) a2.toInt := ⟨_, _root_.rfl⟩
  have k0 := kf
  unfold f_X4_keptFor2 at k0
  refine go_aload_n (pc := 0) rfl dX4_keptFor_0 ?_
  refine gx_getL (pc := 1) hv fL_X4_46 rfl (Nat.le_of_ble_eq_true rfl) rfl dX4_keptFor_1 (fun v1 v1w => ?_)
  have k2 := bd_e k0 v1w.symm
  refine go_iload_n (pc := 4) rfl dX4_keptFor_4 ?_
  refine go_invS (pc := 5) (sl := 0) (s_X7_has_f l (d + 4) hv v1 a2) mL_X4_102 iM_X7_has rfl rfl (Nat.le_of_ble_eq_true rfl) (show d + 4 + 1 + 1 ≤ d + 6 by omega) (show 8 + (3 + 11) + 40 * (d + 4 + 1) ≤ 40 * (d + 6) by omega) (g_c0 hv.ln) (Nat.le_of_ble_eq_true rfl) dX4_keptFor_5 ?_
  intro r h3 hq _
  obtain ⟨v5, rfl, v5l, v5u, rfl, f4⟩ := hq
  replace f4 : PE _ _ := f4
  have k6 := bd_e k2 f4.symm
  refine gf_if_ne (pc := 8) (tgt := 35) (ti_rfl v5) (by decide) dX4_keptFor_8 (fun q7 => ?_) (fun q7 => ?_)
  ·
    have k8 := if_t k6 q7
    refine go_aload_n (pc := 35) rfl dX4_keptFor_35 ?_
    refine gi_getF (pc := 36) (q := 56) hv fL_X4_43 rfl (Nat.le_of_ble_eq_true rfl) rfl (hv.rf (by decide)) dX4_keptFor_36 ?_
    refine go_iload_n (pc := 39) rfl dX4_keptFor_39 ?_
    refine gi_lald (pc := 40) (len := 40) hv (ti_rfl a2) rfl (by omega) (by omega) dX4_keptFor_40 (fun v9 v9w => ?_)
    have k10 := bd_e k8 v9w.symm
    exact gi_lret (pc := 41) ⟨_, rfl, hv, (k10.symm.trans kf), fx⟩ hv dX4_keptFor_41
  ·
    have k11 := if_f k6 (fun z => z q7)
    refine go_aload_n (pc := 11) rfl dX4_keptFor_11 ?_
    refine gi_getF (pc := 12) (q := 56) hv fL_X4_43 rfl (Nat.le_of_ble_eq_true rfl) rfl (hv.rf (by decide)) dX4_keptFor_12 ?_
    refine go_iload_n (pc := 15) rfl dX4_keptFor_15 ?_
    refine go_aload_n (pc := 16) rfl dX4_keptFor_16 ?_
    refine go_iload_n (pc := 17) rfl dX4_keptFor_17 ?_
    refine go_invV (pc := 18) (sl := 0) (s_X4_findKept2_f l (d + 0) hv a2 (by rw [show (a2 : Int32).toInt = a2.toInt from (ti_rfl a2)]; omega) (by rw [show (a2 : Int32).toInt = a2.toInt from (ti_rfl a2)]; omega)) mL_X4_146 iM_X4_findKept sM_X4_findKept (hv.sh rfl) rfl rfl rfl (Nat.le_of_ble_eq_true rfl) (show d + 0 + 5 + 1 ≤ d + 6 by omega) (show 8 + (4 + 11) + 40 * (d + 0 + 5) ≤ 40 * (d + 6) by omega) (g_c0 hv.ln) (Nat.le_of_ble_eq_true rfl) dX4_keptFor_18 ?_
    intro r h12 hq _
    obtain ⟨v15, rfl, hv12, f13, f14⟩ := hq
    have fx12 : FX KKF h h12 := FX.tr fx (FX.mono (fun c j z => by unfold KKF at z; unfold KQ; omega) f14)
    have k16 := bd2_e k11 f13
    refine gi_last (pc := 21) (len := 40) hv12 (ti_rfl a2) rfl (by omega) (by omega) dX4_keptFor_21 (fun h17 hv17 hv17e => ?_)
    have fx17 : FX KKF h h17 := FX.pL fx12 hv17e (by unfold KKF; omega)
    have k18 := bd_e k16 (st_L hv17e)
    refine go_aload_n (pc := 22) rfl dX4_keptFor_22 ?_
    refine go_dup (pc := 23) rfl dX4_keptFor_23 ?_
    refine gx_getL (pc := 24) hv17 fL_X4_46 rfl (Nat.le_of_ble_eq_true rfl) rfl dX4_keptFor_24 (fun v19 v19w => ?_)
    have k20 := bd_e k18 v19w.symm
    refine go_iload_n (pc := 27) rfl dX4_keptFor_27 ?_
    refine go_invS (pc := 28) (sl := 0) (s_X7_bit_f l (d + 4) hv17 a2) mL_X4_91 iM_X7_bit rfl rfl (Nat.le_of_ble_eq_true rfl) (show d + 4 + 1 + 1 ≤ d + 6 by omega) (show 8 + (1 + 11) + 40 * (d + 4 + 1) ≤ 40 * (d + 6) by omega) (g_c0 hv17.ln) (Nat.le_of_ble_eq_true rfl) dX4_keptFor_28 ?_
    intro r h21 hq _
    obtain ⟨v23, rfl, rfl, f22⟩ := hq
    have k24 := bd_e k20 f22.symm
    refine gx_lor (pc := 31) dX4_keptFor_31 (fun v25 v25x => ?_)
    have k26 := bd_e k24 (so_lor v25x)
    refine gi_putL (pc := 32) hv17 (fP_X4_46 _) rfl (Nat.le_of_ble_eq_true rfl) rfl rfl rfl dX4_keptFor_32 (fun h27 hv27 hv27e => ?_)
    have fx27 : FX KKF h h27 := FX.pL fx17 hv27e (by unfold KKF; omega)
    have k28 := bd_e k26 (st_L hv27e)
    refine go_aload_n (pc := 35) rfl dX4_keptFor_35 ?_
    refine gi_getF (pc := 36) (q := 56) hv27 fL_X4_43 rfl (Nat.le_of_ble_eq_true rfl) rfl (hv27.rf (by decide)) dX4_keptFor_36 ?_
    refine go_iload_n (pc := 39) rfl dX4_keptFor_39 ?_
    refine gi_lald (pc := 40) (len := 40) hv27 (ti_rfl a2) rfl (by omega) (by omega) dX4_keptFor_40 (fun v29 v29w => ?_)
    have k30 := bd_e k28 v29w.symm
    exact gi_lret (pc := 41) ⟨_, rfl, hv27, (k30.symm.trans kf), fx27⟩ hv27 dX4_keptFor_41
def f_X7_isProcedure2 (s : ST) (a2 : Int) : Int :=
  if a2 < 0 then (0) else (bd (s.2.2 0 3) fun c4 => bd (s.1 c4 1) fun v6 => if v6 ≤ a2 then (0) else (1))
set_option maxHeartbeats 4000000 in
set_option maxRecDepth 100000 in
theorem s_X7_isProcedure2_f (l : Launch) (d : Nat) {P : PP} {h : HP} (hv : Iv P h) (a2 : Int32) : Mt l yX7_isProcedure cX7_isProcedure 2 (some .boolean) (d + 1) [.ref 0, .int a2] h 0 0 (fun r h' => ∃ v : Int32, r = some (.int v) ∧ 0 ≤ v.toInt ∧ v.toInt ≤ 1 ∧ h = h' ∧ (v.toInt = 1 → 0 ≤ a2.toInt ∧ a2.toInt ≤ 4) ∧ (v.toInt = f_X7_isProcedure2 (st h) a2.toInt)) := by
  refine Mt_iv hv (by decide) (Nat.le_of_ble_eq_true rfl) ?_
  show Go l RX7 cX7_isProcedure 2 (g_rm (d + 1) 0 0) "isProcedure" (some .boolean) 117 0 0 (fun _ _ => True) (fun r h' => ∃ v : Int32, r = some (.int v) ∧ 0 ≤ v.toInt ∧ v.toInt ≤ 1 ∧ h = h' ∧ (v.toInt = 1 → 0 ≤ a2.toInt ∧ a2.toInt ≤ 4) ∧ (v.toInt = f_X7_isProcedure2 (st h) a2.toInt)) 0 0 [(0, .ref 0), (1, .int a2)] [] h
  obtain ⟨fin, kf⟩ : ∃ z, z = f_X7_isProcedure2 (st h) a2.toInt := ⟨_, _root_.rfl⟩
  have k0 := kf
  unfold f_X7_isProcedure2 at k0
  refine go_iload_n (pc := 0) rfl dX7_isProcedure_0 ?_
  refine gf_if_lt (pc := 1) (tgt := 19) (ti_rfl a2) (by decide) dX7_isProcedure_1 (fun q1 => ?_) (fun q1 => ?_)
  ·
    have k2 := if_t k0 q1
    refine go_iconst (pc := 19) (v := 0) (by decide) dX7_isProcedure_19 ?_
    exact gi_zret (pc := 20) (ti_c (v := 0) (a := 0) (by decide)) (by omega) (by omega) ⟨_, rfl, (by rw [show (0 : Int32).toInt = 0 from (ti_c (v := 0) (a := 0) (by decide))]; omega), (by rw [show (0 : Int32).toInt = 0 from (ti_c (v := 0) (a := 0) (by decide))]; omega), rfl, (by rw [show (0 : Int32).toInt = 0 from (ti_c (v := 0) (a := 0) (by decide))]; omega), (by rw [show (0 : Int32).toInt = 0 from (ti_c (v := 0) (a := 0) (by decide))]; exact k2.symm.trans kf)⟩ hv dX7_isProcedure_20
  ·
    have k3 := if_f k0 (Int.not_lt.mpr q1)
    refine go_iload_n (pc := 4) rfl dX7_isProcedure_4 ?_
    refine go_aload_n (pc := 5) rfl dX7_isProcedure_5 ?_
    refine gi_getC (pc := 6) hv fL_X7_23 rfl (Nat.le_of_ble_eq_true rfl) rfl (by decide) dX7_isProcedure_6 (fun c4 hc4 fc4 => ?_)
    have k5 := bd_e k3 (st_c fc4)
    refine gi_get (pc := 9) (lo := 0) (hi := 5) hv fL_X7_68 (by rcases hc4 with rfl | rfl <;> rfl) (Nat.le_of_ble_eq_true rfl) rfl (by rcases hc4 with rfl | rfl <;> rfl) dX7_isProcedure_9 (fun v6 v6l v6u v6w => ?_)
    have k7 := bd_e k5 (congrArg Int32.toInt v6w.symm)
    refine gf_icmp_ge (pc := 12) (tgt := 19) (ti_rfl a2) (ti_rfl v6) (by decide) dX7_isProcedure_12 (fun q8 => ?_) (fun q8 => ?_)
    ·
      have k9 := if_t k7 q8
      refine go_iconst (pc := 19) (v := 0) (by decide) dX7_isProcedure_19 ?_
      exact gi_zret (pc := 20) (ti_c (v := 0) (a := 0) (by decide)) (by omega) (by omega) ⟨_, rfl, (by rw [show (0 : Int32).toInt = 0 from (ti_c (v := 0) (a := 0) (by decide))]; omega), (by rw [show (0 : Int32).toInt = 0 from (ti_c (v := 0) (a := 0) (by decide))]; omega), rfl, (by rw [show (0 : Int32).toInt = 0 from (ti_c (v := 0) (a := 0) (by decide))]; omega), (by rw [show (0 : Int32).toInt = 0 from (ti_c (v := 0) (a := 0) (by decide))]; exact k9.symm.trans kf)⟩ hv dX7_isProcedure_20
    ·
      have k10 := if_f k7 (Int.not_le.mpr q8)
      refine go_iconst (pc := 15) (v := 1) (by decide) dX7_isProcedure_15 ?_
      refine go_goto (pc := 16) (tgt := 20) (by decide) dX7_isProcedure_16 ?_
      exact gi_zret (pc := 20) (ti_c (v := 1) (a := 1) (by decide)) (by omega) (by omega) ⟨_, rfl, (by rw [show (1 : Int32).toInt = 1 from (ti_c (v := 1) (a := 1) (by decide))]; omega), (by rw [show (1 : Int32).toInt = 1 from (ti_c (v := 1) (a := 1) (by decide))]; omega), rfl, (by rw [show (1 : Int32).toInt = 1 from (ti_c (v := 1) (a := 1) (by decide))]; omega), (by rw [show (1 : Int32).toInt = 1 from (ti_c (v := 1) (a := 1) (by decide))]; exact k10.symm.trans kf)⟩ hv dX7_isProcedure_20
def f_X7_isPort2 (s : ST) (a1 : Int) : Int :=
  if a1 < 0 then (0) else (if 6 ≤ a1 then (0) else (1))
set_option maxHeartbeats 4000000 in
set_option maxRecDepth 100000 in
theorem s_X7_isPort2_f (l : Launch) (d : Nat) {P : PP} {h : HP} (hv : Iv P h) (a1 : Int32) : Mt l yX7_isPort cX7_isPort 1 (some .boolean) (d + 1) [.int a1] h 0 0 (fun r h' => ∃ v : Int32, r = some (.int v) ∧ 0 ≤ v.toInt ∧ v.toInt ≤ 1 ∧ h = h' ∧ (v.toInt = 1 → 0 ≤ a1.toInt ∧ a1.toInt ≤ 5) ∧ (v.toInt = f_X7_isPort2 (st h) a1.toInt)) := by
  refine Mt_iv hv (by decide) (Nat.le_of_ble_eq_true rfl) ?_
  show Go l RX7 cX7_isPort 1 (g_rm (d + 1) 0 0) "isPort" (some .boolean) 117 0 0 (fun _ _ => True) (fun r h' => ∃ v : Int32, r = some (.int v) ∧ 0 ≤ v.toInt ∧ v.toInt ≤ 1 ∧ h = h' ∧ (v.toInt = 1 → 0 ≤ a1.toInt ∧ a1.toInt ≤ 5) ∧ (v.toInt = f_X7_isPort2 (st h) a1.toInt)) 0 0 [(0, .int a1)] [] h
  obtain ⟨fin, kf⟩ : ∃ z, z = f_X7_isPort2 (st h) a1.toInt := ⟨_, _root_.rfl⟩
  have k0 := kf
  unfold f_X7_isPort2 at k0
  refine go_iload_n (pc := 0) rfl dX7_isPort_0 ?_
  refine gf_if_lt (pc := 1) (tgt := 14) (ti_rfl a1) (by decide) dX7_isPort_1 (fun q1 => ?_) (fun q1 => ?_)
  ·
    have k2 := if_t k0 q1
    refine go_iconst (pc := 14) (v := 0) (by decide) dX7_isPort_14 ?_
    exact gi_zret (pc := 15) (ti_c (v := 0) (a := 0) (by decide)) (by omega) (by omega) ⟨_, rfl, (by rw [show (0 : Int32).toInt = 0 from (ti_c (v := 0) (a := 0) (by decide))]; omega), (by rw [show (0 : Int32).toInt = 0 from (ti_c (v := 0) (a := 0) (by decide))]; omega), rfl, (by rw [show (0 : Int32).toInt = 0 from (ti_c (v := 0) (a := 0) (by decide))]; omega), (by rw [show (0 : Int32).toInt = 0 from (ti_c (v := 0) (a := 0) (by decide))]; exact k2.symm.trans kf)⟩ hv dX7_isPort_15
  ·
    have k3 := if_f k0 (Int.not_lt.mpr q1)
    refine go_iload_n (pc := 4) rfl dX7_isPort_4 ?_
    refine go_bipush (pc := 5) (v := 6) (by decide) dX7_isPort_5 ?_
    refine gf_icmp_ge (pc := 7) (tgt := 14) (ti_rfl a1) (ti_c (v := 6) (a := 6) (by decide)) (by decide) dX7_isPort_7 (fun q4 => ?_) (fun q4 => ?_)
    ·
      have k5 := if_t k3 q4
      refine go_iconst (pc := 14) (v := 0) (by decide) dX7_isPort_14 ?_
      exact gi_zret (pc := 15) (ti_c (v := 0) (a := 0) (by decide)) (by omega) (by omega) ⟨_, rfl, (by rw [show (0 : Int32).toInt = 0 from (ti_c (v := 0) (a := 0) (by decide))]; omega), (by rw [show (0 : Int32).toInt = 0 from (ti_c (v := 0) (a := 0) (by decide))]; omega), rfl, (by rw [show (0 : Int32).toInt = 0 from (ti_c (v := 0) (a := 0) (by decide))]; omega), (by rw [show (0 : Int32).toInt = 0 from (ti_c (v := 0) (a := 0) (by decide))]; exact k5.symm.trans kf)⟩ hv dX7_isPort_15
    ·
      have k6 := if_f k3 (Int.not_le.mpr q4)
      refine go_iconst (pc := 10) (v := 1) (by decide) dX7_isPort_10 ?_
      refine go_goto (pc := 11) (tgt := 15) (by decide) dX7_isPort_11 ?_
      exact gi_zret (pc := 15) (ti_c (v := 1) (a := 1) (by decide)) (by omega) (by omega) ⟨_, rfl, (by rw [show (1 : Int32).toInt = 1 from (ti_c (v := 1) (a := 1) (by decide))]; omega), (by rw [show (1 : Int32).toInt = 1 from (ti_c (v := 1) (a := 1) (by decide))]; omega), rfl, (by rw [show (1 : Int32).toInt = 1 from (ti_c (v := 1) (a := 1) (by decide))]; omega), (by rw [show (1 : Int32).toInt = 1 from (ti_c (v := 1) (a := 1) (by decide))]; exact k6.symm.trans kf)⟩ hv dX7_isPort_15
noncomputable def f_X7_hangs2 (s : ST) (a2 : Int) (a3 : Int) : ST × Int :=
  bd (f_X7_isStatement s a2) fun v3 => if v3 = 0 then ((s, 0)) else (bd (f_X7_isStatement s a3) fun v11 => if ¬ v11 = 0 then (bd (s.2.2 0 3) fun c16 => bd (f_X4_prepare2 s c16) fun s18 => bd (f_X1_kindsBetween2 s18 a2 a3) fun v24 => (s18, v24)) else ((s, 0)))
set_option maxHeartbeats 4000000 in
set_option maxRecDepth 100000 in
theorem s_X7_hangs2_f (l : Launch) (d : Nat) {P : PP} {h : HP} (hv : Iv P h) (a2 : Int32) (a3 : Int32) : Mt l yX7_hangs cX7_hangs 3 (some .int) (d + 7) [.ref 0, .int a2, .int a3] h 0 0 (fun r h' => ∃ v : Int32, r = some (.int v) ∧ -2147483648 ≤ v.toInt ∧ v.toInt ≤ 2147483647 ∧ Iv P h' ∧ ((st h', v.toInt) = f_X7_hangs2 (st h) a2.toInt a3.toInt) ∧ (FX KAc h h')) := by
  refine Mt_iv hv (by decide) (Nat.le_of_ble_eq_true rfl) ?_
  show Go l RX7 cX7_hangs 3 (g_rm (d + 7) 0 0) "hangs" (some .int) 117 0 0 (fun _ _ => True) (fun r h' => ∃ v : Int32, r = some (.int v) ∧ -2147483648 ≤ v.toInt ∧ v.toInt ≤ 2147483647 ∧ Iv P h' ∧ ((st h', v.toInt) = f_X7_hangs2 (st h) a2.toInt a3.toInt) ∧ (FX KAc h h')) 0 0 [(0, .ref 0), (1, .int a2), (2, .int a3)] [] h
  have fx : FX KAc h h := FX.rfl
  obtain ⟨fin, kf⟩ : ∃ z, z = f_X7_hangs2 (st h) a2.toInt a3.toInt := ⟨_, _root_.rfl⟩
  have k0 := kf
  unfold f_X7_hangs2 at k0
  refine go_aload_n (pc := 0) rfl dX7_hangs_0 ?_
  refine go_iload_n (pc := 1) rfl dX7_hangs_1 ?_
  refine go_invV (pc := 2) (sl := 0) (s_X7_isStatement_f l (d + 5) hv a2) mL_X7_87 iM_X7_isStatement sM_X7_isStatement (hv.sh rfl) rfl rfl rfl (Nat.le_of_ble_eq_true rfl) (show d + 5 + 1 + 1 ≤ d + 7 by omega) (show 8 + (2 + 11) + 40 * (d + 5 + 1) ≤ 40 * (d + 7) by omega) (g_c0 hv.ln) (Nat.le_of_ble_eq_true rfl) dX7_hangs_2 ?_
  intro r h1 hq _
  obtain ⟨v3, rfl, v3l, v3u, rfl, f4, f2⟩ := hq
  replace f2 : PE _ _ := f2
  have k5 := bd_e k0 f2.symm
  refine gf_if_eq (pc := 5) (tgt := 16) (ti_rfl v3) (by decide) dX7_hangs_5 (fun q6 => ?_) (fun q6 => ?_)
  ·
    have k7 := if_t k5 q6
    refine go_iconst (pc := 16) (v := 0) (by decide) dX7_hangs_16 ?_
    exact gi_iret (pc := 17) (ti_c (v := 0) (a := 0) (by decide)) ⟨_, rfl, (ti_lo _), (ti_hi _), hv, (by rw [show (0 : Int32).toInt = 0 from (ti_c (v := 0) (a := 0) (by decide))]; exact k7.symm.trans kf), fx⟩ hv dX7_hangs_17
  ·
    have k8 := if_f k5 q6
    refine go_aload_n (pc := 8) rfl dX7_hangs_8 ?_
    refine go_iload_n (pc := 9) rfl dX7_hangs_9 ?_
    refine go_invV (pc := 10) (sl := 0) (s_X7_isStatement_f l (d + 5) hv a3) mL_X7_87 iM_X7_isStatement sM_X7_isStatement (hv.sh rfl) rfl rfl rfl (Nat.le_of_ble_eq_true rfl) (show d + 5 + 1 + 1 ≤ d + 7 by omega) (show 8 + (2 + 11) + 40 * (d + 5 + 1) ≤ 40 * (d + 7) by omega) (g_c0 hv.ln) (Nat.le_of_ble_eq_true rfl) dX7_hangs_10 ?_
    intro r h9 hq _
    obtain ⟨v11, rfl, v11l, v11u, rfl, f12, f10⟩ := hq
    replace f10 : PE _ _ := f10
    have k13 := bd_e k8 f10.symm
    refine gf_if_ne (pc := 13) (tgt := 18) (ti_rfl v11) (by decide) dX7_hangs_13 (fun q14 => ?_) (fun q14 => ?_)
    ·
      have k15 := if_t k13 q14
      refine go_aload_n (pc := 18) rfl dX7_hangs_18 ?_
      refine gi_getF (pc := 19) (q := 49) hv fL_X7_42 rfl (Nat.le_of_ble_eq_true rfl) rfl (hv.rf (by decide)) dX7_hangs_19 ?_
      refine go_aload_n (pc := 22) rfl dX7_hangs_22 ?_
      refine gi_getC (pc := 23) hv fL_X7_23 rfl (Nat.le_of_ble_eq_true rfl) rfl (by decide) dX7_hangs_23 (fun c16 hc16 fc16 => ?_)
      have k17 := bd_e k15 (st_c fc16)
      refine go_invV (pc := 26) (sl := 0) (s_X4_prepare2_f l (d + 0) hv c16 hc16) mL_X7_113 iM_X4_prepare sM_X4_prepare (hv.sh rfl) rfl rfl rfl (Nat.le_of_ble_eq_true rfl) (show d + 0 + 6 + 1 ≤ d + 7 by omega) (show 8 + (4 + 11) + 40 * (d + 0 + 6) ≤ 40 * (d + 7) by omega) (g_c0 hv.ln) (Nat.le_of_ble_eq_true rfl) dX7_hangs_26 ?_
      intro r h18 hq _
      obtain ⟨rfl, hv18, f19, f20⟩ := hq
      have fx18 : FX KAc h h18 := FX.tr fx f20
      have k21 := bd_e k17 f19.symm
      refine go_aload_n (pc := 29) rfl dX7_hangs_29 ?_
      refine gi_getF (pc := 30) (q := 49) hv18 fL_X7_42 rfl (Nat.le_of_ble_eq_true rfl) rfl (hv18.rf (by decide)) dX7_hangs_30 ?_
      refine gi_getF (pc := 33) (q := 57) hv18 fL_X7_116 rfl (Nat.le_of_ble_eq_true rfl) rfl (hv18.rf (by decide)) dX7_hangs_33 ?_
      refine go_iload_n (pc := 36) rfl dX7_hangs_36 ?_
      refine go_iload_n (pc := 37) rfl dX7_hangs_37 ?_
      refine go_invV (pc := 38) (sl := 0) (s_X1_kindsBetween2_f l (d + 4) hv18 a2 (by rw [show (a2 : Int32).toInt = a2.toInt from (ti_rfl a2)]; omega) (by rw [show (a2 : Int32).toInt = a2.toInt from (ti_rfl a2)]; omega) a3) mL_X7_120 iM_X1_kindsBetween sM_X1_kindsBetween (hv18.sh rfl) rfl rfl rfl (Nat.le_of_ble_eq_true rfl) (show d + 4 + 2 + 1 ≤ d + 7 by omega) (show 8 + (3 + 11) + 40 * (d + 4 + 2) ≤ 40 * (d + 7) by omega) (g_c0 hv18.ln) (Nat.le_of_ble_eq_true rfl) dX7_hangs_38 ?_
      intro r h22 hq _
      obtain ⟨v24, rfl, v24l, v24u, rfl, f23⟩ := hq
      replace f23 : PE _ _ := f23
      have k25 := bd_e k21 f23.symm
      exact gi_iret (pc := 41) (ti_rfl v24) ⟨_, rfl, (ti_lo _), (ti_hi _), hv18, (k25.symm.trans kf), fx18⟩ hv18 dX7_hangs_41
    ·
      have k26 := if_f k13 (fun z => z q14)
      refine go_iconst (pc := 16) (v := 0) (by decide) dX7_hangs_16 ?_
      exact gi_iret (pc := 17) (ti_c (v := 0) (a := 0) (by decide)) ⟨_, rfl, (ti_lo _), (ti_hi _), hv, (by rw [show (0 : Int32).toInt = 0 from (ti_c (v := 0) (a := 0) (by decide))]; exact k26.symm.trans kf), fx⟩ hv dX7_hangs_17
noncomputable def f_X7_begun2 (s : ST) (a2 : Int) : ST × Int64 :=
  bd (f_X7_isProcedure2 s a2) fun v3 => if ¬ v3 = 0 then (bd (s.2.2 0 3) fun c8 => bd (f_X4_prepare2 s c8) fun s10 => bd (s10.2.1 61 (a2).toNat) fun v14 => (s10, v14)) else ((s, (0 : Int64)))
set_option maxHeartbeats 4000000 in
set_option maxRecDepth 100000 in
theorem s_X7_begun2_f (l : Launch) (d : Nat) {P : PP} {h : HP} (hv : Iv P h) (a2 : Int32) : Mt l yX7_begun cX7_begun 2 (some .long) (d + 7) [.ref 0, .int a2] h 0 0 (fun r h' => ∃ v : Int64, r = some (.long v) ∧ Iv P h' ∧ ((st h', v) = f_X7_begun2 (st h) a2.toInt) ∧ (FX KAc h h')) := by
  refine Mt_iv hv (by decide) (Nat.le_of_ble_eq_true rfl) ?_
  show Go l RX7 cX7_begun 2 (g_rm (d + 7) 0 0) "begun" (some .long) 117 0 0 (fun _ _ => True) (fun r h' => ∃ v : Int64, r = some (.long v) ∧ Iv P h' ∧ ((st h', v) = f_X7_begun2 (st h) a2.toInt) ∧ (FX KAc h h')) 0 0 [(0, .ref 0), (1, .int a2)] [] h
  have fx : FX KAc h h := FX.rfl
  obtain ⟨fin, kf⟩ : ∃ z, z = f_X7_begun2 (st h) a2.toInt := ⟨_, _root_.rfl⟩
  have k0 := kf
  unfold f_X7_begun2 at k0
  refine go_aload_n (pc := 0) rfl dX7_begun_0 ?_
  refine go_iload_n (pc := 1) rfl dX7_begun_1 ?_
  refine go_invV (pc := 2) (sl := 0) (s_X7_isProcedure2_f l (d + 5) hv a2) mL_X7_126 iM_X7_isProcedure sM_X7_isProcedure (hv.sh rfl) rfl rfl rfl (Nat.le_of_ble_eq_true rfl) (show d + 5 + 1 + 1 ≤ d + 7 by omega) (show 8 + (2 + 11) + 40 * (d + 5 + 1) ≤ 40 * (d + 7) by omega) (g_c0 hv.ln) (Nat.le_of_ble_eq_true rfl) dX7_begun_2 ?_
  intro r h1 hq _
  obtain ⟨v3, rfl, v3l, v3u, rfl, f4, f2⟩ := hq
  replace f2 : PE _ _ := f2
  have k5 := bd_e k0 f2.symm
  refine gf_if_ne (pc := 5) (tgt := 10) (ti_rfl v3) (by decide) dX7_begun_5 (fun q6 => ?_) (fun q6 => ?_)
  ·
    have k7 := if_t k5 q6
    refine go_aload_n (pc := 10) rfl dX7_begun_10 ?_
    refine gi_getF (pc := 11) (q := 49) hv fL_X7_42 rfl (Nat.le_of_ble_eq_true rfl) rfl (hv.rf (by decide)) dX7_begun_11 ?_
    refine go_aload_n (pc := 14) rfl dX7_begun_14 ?_
    refine gi_getC (pc := 15) hv fL_X7_23 rfl (Nat.le_of_ble_eq_true rfl) rfl (by decide) dX7_begun_15 (fun c8 hc8 fc8 => ?_)
    have k9 := bd_e k7 (st_c fc8)
    refine go_invV (pc := 18) (sl := 0) (s_X4_prepare2_f l (d + 0) hv c8 hc8) mL_X7_113 iM_X4_prepare sM_X4_prepare (hv.sh rfl) rfl rfl rfl (Nat.le_of_ble_eq_true rfl) (show d + 0 + 6 + 1 ≤ d + 7 by omega) (show 8 + (4 + 11) + 40 * (d + 0 + 6) ≤ 40 * (d + 7) by omega) (g_c0 hv.ln) (Nat.le_of_ble_eq_true rfl) dX7_begun_18 ?_
    intro r h10 hq _
    obtain ⟨rfl, hv10, f11, f12⟩ := hq
    have fx10 : FX KAc h h10 := FX.tr fx f12
    have k13 := bd_e k9 f11.symm
    refine go_aload_n (pc := 21) rfl dX7_begun_21 ?_
    refine gi_getF (pc := 22) (q := 49) hv10 fL_X7_42 rfl (Nat.le_of_ble_eq_true rfl) rfl (hv10.rf (by decide)) dX7_begun_22 ?_
    refine gi_getF (pc := 25) (q := 57) hv10 fL_X7_116 rfl (Nat.le_of_ble_eq_true rfl) rfl (hv10.rf (by decide)) dX7_begun_25 ?_
    refine gi_getF (pc := 28) (q := 61) hv10 fL_X7_129 rfl (Nat.le_of_ble_eq_true rfl) rfl (hv10.rf (by decide)) dX7_begun_28 ?_
    refine go_iload_n (pc := 31) rfl dX7_begun_31 ?_
    refine gi_lald (pc := 32) (len := 5) hv10 (ti_rfl a2) rfl (by omega) (by omega) dX7_begun_32 (fun v14 v14w => ?_)
    have k15 := bd_e k13 v14w.symm
    exact gi_lret (pc := 33) ⟨_, rfl, hv10, (k15.symm.trans kf), fx10⟩ hv10 dX7_begun_33
  ·
    have k16 := if_f k5 (fun z => z q6)
    refine go_lconst (pc := 8) (v := 0) (by decide) dX7_begun_8 ?_
    exact gi_lret (pc := 9) ⟨_, rfl, hv, (k16.symm.trans kf), fx⟩ hv dX7_begun_9
noncomputable def f_X7_summary2 (s : ST) (a2 : Int) (a3 : Int) (a4 : Int) : ST × Int :=
  bd (f_X7_isStatement s a2) fun v3 => if v3 = 0 then ((s, 0)) else (bd (s.2.2 0 3) fun c9 => bd (s.1 (c9 + 2) (a2).toNat) fun v11 => if ¬ v11 = 1 then ((s, 0)) else (bd (f_X7_isPort2 s a3) fun v18 => if v18 = 0 then ((s, 0)) else (bd (f_X7_isPort2 s a4) fun v26 => if ¬ v26 = 0 then (bd (s.2.2 0 3) fun c31 => bd (f_X4_prepare2 s c31) fun s33 => bd (s33.2.2 0 3) fun c37 => bd (s33.1 (c37 + 7) (a2).toNat) fun v39 => bd (f_X4_leadsThrough2 s33 v39 a3 a4) fun v43 => (s33, v43)) else ((s, 0)))))
set_option maxHeartbeats 4000000 in
set_option maxRecDepth 100000 in
theorem s_X7_summary2_f (l : Launch) (d : Nat) {P : PP} {h : HP} (hv : Iv P h) (a2 : Int32) (a3 : Int32) (a4 : Int32) : Mt l yX7_summary cX7_summary 4 (some .boolean) (d + 7) [.ref 0, .int a2, .int a3, .int a4] h 0 0 (fun r h' => ∃ v : Int32, r = some (.int v) ∧ 0 ≤ v.toInt ∧ v.toInt ≤ 1 ∧ Iv P h' ∧ ((st h', v.toInt) = f_X7_summary2 (st h) a2.toInt a3.toInt a4.toInt) ∧ (FX KAc h h')) := by
  refine Mt_iv hv (by decide) (Nat.le_of_ble_eq_true rfl) ?_
  show Go l RX7 cX7_summary 4 (g_rm (d + 7) 0 0) "summary" (some .boolean) 117 0 0 (fun _ _ => True) (fun r h' => ∃ v : Int32, r = some (.int v) ∧ 0 ≤ v.toInt ∧ v.toInt ≤ 1 ∧ Iv P h' ∧ ((st h', v.toInt) = f_X7_summary2 (st h) a2.toInt a3.toInt a4.toInt) ∧ (FX KAc h h')) 0 0 [(0, .ref 0), (1, .int a2), (2, .int a3), (3, .int a4)] [] h
  have fx : FX KAc h h := FX.rfl
  obtain ⟨fin, kf⟩ : ∃ z, z = f_X7_summary2 (st h) a2.toInt a3.toInt a4.toInt := ⟨_, _root_.rfl⟩
  have k0 := kf
  unfold f_X7_summary2 at k0
  refine go_aload_n (pc := 0) rfl dX7_summary_0 ?_
  refine go_iload_n (pc := 1) rfl dX7_summary_1 ?_
  refine go_invV (pc := 2) (sl := 0) (s_X7_isStatement_f l (d + 5) hv a2) mL_X7_87 iM_X7_isStatement sM_X7_isStatement (hv.sh rfl) rfl rfl rfl (Nat.le_of_ble_eq_true rfl) (show d + 5 + 1 + 1 ≤ d + 7 by omega) (show 8 + (2 + 11) + 40 * (d + 5 + 1) ≤ 40 * (d + 7) by omega) (g_c0 hv.ln) (Nat.le_of_ble_eq_true rfl) dX7_summary_2 ?_
  intro r h1 hq _
  obtain ⟨v3, rfl, v3l, v3u, rfl, f4, f2⟩ := hq
  replace f2 : PE _ _ := f2
  have k5 := bd_e k0 f2.symm
  refine gf_if_eq (pc := 5) (tgt := 35) (ti_rfl v3) (by decide) dX7_summary_5 (fun q6 => ?_) (fun q6 => ?_)
  ·
    have k7 := if_t k5 q6
    refine go_iconst (pc := 35) (v := 0) (by decide) dX7_summary_35 ?_
    exact gi_zret (pc := 36) (ti_c (v := 0) (a := 0) (by decide)) (by omega) (by omega) ⟨_, rfl, (by rw [show (0 : Int32).toInt = 0 from (ti_c (v := 0) (a := 0) (by decide))]; omega), (by rw [show (0 : Int32).toInt = 0 from (ti_c (v := 0) (a := 0) (by decide))]; omega), hv, (by rw [show (0 : Int32).toInt = 0 from (ti_c (v := 0) (a := 0) (by decide))]; exact k7.symm.trans kf), fx⟩ hv dX7_summary_36
  ·
    have k8 := if_f k5 q6
    refine go_aload_n (pc := 8) rfl dX7_summary_8 ?_
    refine gi_getC (pc := 9) hv fL_X7_23 rfl (Nat.le_of_ble_eq_true rfl) rfl (by decide) dX7_summary_9 (fun c9 hc9 fc9 => ?_)
    have k10 := bd_e k8 (st_c fc9)
    refine gi_getF (pc := 12) (q := c9 + 2) hv fL_X7_91 (by rcases hc9 with rfl | rfl <;> rfl) (Nat.le_of_ble_eq_true rfl) rfl (by rcases hc9 with rfl | rfl <;> exact hv.rf (by decide)) dX7_summary_12 ?_
    refine go_iload_n (pc := 15) rfl dX7_summary_15 ?_
    refine gi_iald (pc := 16) (lo := 0) (hi := 5) (len := 40) hv (ti_rfl a2) (by rcases hc9 with rfl | rfl <;> rfl) (by omega) (by omega) (fun _ => by rcases hc9 with rfl | rfl <;> rfl) dX7_summary_16 (fun v11 v11l v11u v11w => ?_)
    have k12 := bd_e k10 (congrArg Int32.toInt v11w.symm)
    refine go_iconst (pc := 17) (v := 1) (by decide) dX7_summary_17 ?_
    refine gf_icmp_ne (pc := 18) (tgt := 35) (ti_rfl v11) (ti_c (v := 1) (a := 1) (by decide)) (by decide) dX7_summary_18 (fun q13 => ?_) (fun q13 => ?_)
    ·
      have k14 := if_t k12 q13
      refine go_iconst (pc := 35) (v := 0) (by decide) dX7_summary_35 ?_
      exact gi_zret (pc := 36) (ti_c (v := 0) (a := 0) (by decide)) (by omega) (by omega) ⟨_, rfl, (by rw [show (0 : Int32).toInt = 0 from (ti_c (v := 0) (a := 0) (by decide))]; omega), (by rw [show (0 : Int32).toInt = 0 from (ti_c (v := 0) (a := 0) (by decide))]; omega), hv, (by rw [show (0 : Int32).toInt = 0 from (ti_c (v := 0) (a := 0) (by decide))]; exact k14.symm.trans kf), fx⟩ hv dX7_summary_36
    ·
      have k15 := if_f k12 (fun z => z q13)
      refine go_iload_n (pc := 21) rfl dX7_summary_21 ?_
      refine go_invS (pc := 22) (sl := 0) (s_X7_isPort2_f l (d + 5) hv a3) mL_X7_133 iM_X7_isPort rfl rfl (Nat.le_of_ble_eq_true rfl) (show d + 5 + 1 + 1 ≤ d + 7 by omega) (show 8 + (1 + 11) + 40 * (d + 5 + 1) ≤ 40 * (d + 7) by omega) (g_c0 hv.ln) (Nat.le_of_ble_eq_true rfl) dX7_summary_22 ?_
      intro r h16 hq _
      obtain ⟨v18, rfl, v18l, v18u, rfl, f19, f17⟩ := hq
      replace f17 : PE _ _ := f17
      have k20 := bd_e k15 f17.symm
      refine gf_if_eq (pc := 25) (tgt := 35) (ti_rfl v18) (by decide) dX7_summary_25 (fun q21 => ?_) (fun q21 => ?_)
      ·
        have k22 := if_t k20 q21
        refine go_iconst (pc := 35) (v := 0) (by decide) dX7_summary_35 ?_
        exact gi_zret (pc := 36) (ti_c (v := 0) (a := 0) (by decide)) (by omega) (by omega) ⟨_, rfl, (by rw [show (0 : Int32).toInt = 0 from (ti_c (v := 0) (a := 0) (by decide))]; omega), (by rw [show (0 : Int32).toInt = 0 from (ti_c (v := 0) (a := 0) (by decide))]; omega), hv, (by rw [show (0 : Int32).toInt = 0 from (ti_c (v := 0) (a := 0) (by decide))]; exact k22.symm.trans kf), fx⟩ hv dX7_summary_36
      ·
        have k23 := if_f k20 q21
        refine go_iload_n (pc := 28) rfl dX7_summary_28 ?_
        refine go_invS (pc := 29) (sl := 0) (s_X7_isPort2_f l (d + 5) hv a4) mL_X7_133 iM_X7_isPort rfl rfl (Nat.le_of_ble_eq_true rfl) (show d + 5 + 1 + 1 ≤ d + 7 by omega) (show 8 + (1 + 11) + 40 * (d + 5 + 1) ≤ 40 * (d + 7) by omega) (g_c0 hv.ln) (Nat.le_of_ble_eq_true rfl) dX7_summary_29 ?_
        intro r h24 hq _
        obtain ⟨v26, rfl, v26l, v26u, rfl, f27, f25⟩ := hq
        replace f25 : PE _ _ := f25
        have k28 := bd_e k23 f25.symm
        refine gf_if_ne (pc := 32) (tgt := 37) (ti_rfl v26) (by decide) dX7_summary_32 (fun q29 => ?_) (fun q29 => ?_)
        ·
          have k30 := if_t k28 q29
          refine go_aload_n (pc := 37) rfl dX7_summary_37 ?_
          refine gi_getF (pc := 38) (q := 49) hv fL_X7_42 rfl (Nat.le_of_ble_eq_true rfl) rfl (hv.rf (by decide)) dX7_summary_38 ?_
          refine go_aload_n (pc := 41) rfl dX7_summary_41 ?_
          refine gi_getC (pc := 42) hv fL_X7_23 rfl (Nat.le_of_ble_eq_true rfl) rfl (by decide) dX7_summary_42 (fun c31 hc31 fc31 => ?_)
          have k32 := bd_e k30 (st_c fc31)
          refine go_invV (pc := 45) (sl := 0) (s_X4_prepare2_f l (d + 0) hv c31 hc31) mL_X7_113 iM_X4_prepare sM_X4_prepare (hv.sh rfl) rfl rfl rfl (Nat.le_of_ble_eq_true rfl) (show d + 0 + 6 + 1 ≤ d + 7 by omega) (show 8 + (4 + 11) + 40 * (d + 0 + 6) ≤ 40 * (d + 7) by omega) (g_c0 hv.ln) (Nat.le_of_ble_eq_true rfl) dX7_summary_45 ?_
          intro r h33 hq _
          obtain ⟨rfl, hv33, f34, f35⟩ := hq
          have fx33 : FX KAc h h33 := FX.tr fx f35
          have k36 := bd_e k32 f34.symm
          refine go_aload_n (pc := 48) rfl dX7_summary_48 ?_
          refine gi_getF (pc := 49) (q := 49) hv33 fL_X7_42 rfl (Nat.le_of_ble_eq_true rfl) rfl (hv33.rf (by decide)) dX7_summary_49 ?_
          refine go_aload_n (pc := 52) rfl dX7_summary_52 ?_
          refine gi_getC (pc := 53) hv33 fL_X7_23 rfl (Nat.le_of_ble_eq_true rfl) rfl (by decide) dX7_summary_53 (fun c37 hc37 fc37 => ?_)
          have k38 := bd_e k36 (st_c fc37)
          refine gi_getF (pc := 56) (q := c37 + 7) hv33 fL_X7_101 (by rcases hc37 with rfl | rfl <;> rfl) (Nat.le_of_ble_eq_true rfl) rfl (by rcases hc37 with rfl | rfl <;> exact hv33.rf (by decide)) dX7_summary_56 ?_
          refine go_iload_n (pc := 59) rfl dX7_summary_59 ?_
          refine gi_iald (pc := 60) (lo := -2) (hi := 4) (len := 40) hv33 (ti_rfl a2) (by rcases hc37 with rfl | rfl <;> rfl) (by omega) (by omega) (fun _ => by rcases hc37 with rfl | rfl <;> rfl) dX7_summary_60 (fun v39 v39l v39u v39w => ?_)
          have k40 := bd_e k38 (congrArg Int32.toInt v39w.symm)
          have kk : 0 ≤ v39.toInt := by rw [v39w]; exact hv.sum hv33 fc9 fc37 hc37 (by rw [← v11w]; omega)
          refine go_iload_n (pc := 61) rfl dX7_summary_61 ?_
          refine go_iload_n (pc := 62) rfl dX7_summary_62 ?_
          refine go_invV (pc := 63) (sl := 0) (s_X4_leadsThrough2_f l (d + 4) hv33 v39 (by rw [show (v39 : Int32).toInt = v39.toInt from (ti_rfl v39)]; omega) (by rw [show (v39 : Int32).toInt = v39.toInt from (ti_rfl v39)]; omega) a3 a4 (by rw [show (a4 : Int32).toInt = a4.toInt from (ti_rfl a4)]; omega) (by rw [show (a4 : Int32).toInt = a4.toInt from (ti_rfl a4)]; omega)) mL_X7_136 iM_X4_leadsThrough sM_X4_leadsThrough (hv33.sh rfl) rfl rfl rfl (Nat.le_of_ble_eq_true rfl) (show d + 4 + 2 + 1 ≤ d + 7 by omega) (show 8 + (4 + 11) + 40 * (d + 4 + 2) ≤ 40 * (d + 7) by omega) (g_c0 hv33.ln) (Nat.le_of_ble_eq_true rfl) dX7_summary_63 ?_
          intro r h41 hq _
          obtain ⟨v43, rfl, v43l, v43u, rfl, f42⟩ := hq
          replace f42 : PE _ _ := f42
          have k44 := bd_e k40 f42.symm
          exact gi_zret (pc := 66) (ti_rfl v43) (by omega) (by omega) ⟨_, rfl, (by rw [show (v43 : Int32).toInt = v43.toInt from (ti_rfl v43)]; omega), (by rw [show (v43 : Int32).toInt = v43.toInt from (ti_rfl v43)]; omega), hv33, (k44.symm.trans kf), fx33⟩ hv33 dX7_summary_66
        ·
          have k45 := if_f k28 (fun z => z q29)
          refine go_iconst (pc := 35) (v := 0) (by decide) dX7_summary_35 ?_
          exact gi_zret (pc := 36) (ti_c (v := 0) (a := 0) (by decide)) (by omega) (by omega) ⟨_, rfl, (by rw [show (0 : Int32).toInt = 0 from (ti_c (v := 0) (a := 0) (by decide))]; omega), (by rw [show (0 : Int32).toInt = 0 from (ti_c (v := 0) (a := 0) (by decide))]; omega), hv, (by rw [show (0 : Int32).toInt = 0 from (ti_c (v := 0) (a := 0) (by decide))]; exact k45.symm.trans kf), fx⟩ hv dX7_summary_36
noncomputable def f_X7_back2 (s : ST) (a2 : Int) : ST × Int64 :=
  bd (f_X7_isStatement s a2) fun v3 => if ¬ v3 = 0 then (bd (s.2.2 0 3) fun c8 => bd (f_X4_prepare2 s c8) fun s10 => bd2 (f_X4_backFrom2 s10 a2) fun s14 v17 => (s14, v17)) else ((s, ((-1) : Int64)))
set_option maxHeartbeats 4000000 in
set_option maxRecDepth 100000 in
theorem s_X7_back2_f (l : Launch) (d : Nat) {P : PP} {h : HP} (hv : Iv P h) (a2 : Int32) : Mt l yX7_back cX7_back 2 (some .long) (d + 7) [.ref 0, .int a2] h 0 0 (fun r h' => ∃ v : Int64, r = some (.long v) ∧ Iv P h' ∧ ((st h', v) = f_X7_back2 (st h) a2.toInt) ∧ (FX KAc h h')) := by
  refine Mt_iv hv (by decide) (Nat.le_of_ble_eq_true rfl) ?_
  show Go l RX7 cX7_back 2 (g_rm (d + 7) 0 0) "back" (some .long) 117 0 0 (fun _ _ => True) (fun r h' => ∃ v : Int64, r = some (.long v) ∧ Iv P h' ∧ ((st h', v) = f_X7_back2 (st h) a2.toInt) ∧ (FX KAc h h')) 0 0 [(0, .ref 0), (1, .int a2)] [] h
  have fx : FX KAc h h := FX.rfl
  obtain ⟨fin, kf⟩ : ∃ z, z = f_X7_back2 (st h) a2.toInt := ⟨_, _root_.rfl⟩
  have k0 := kf
  unfold f_X7_back2 at k0
  refine go_aload_n (pc := 0) rfl dX7_back_0 ?_
  refine go_iload_n (pc := 1) rfl dX7_back_1 ?_
  refine go_invV (pc := 2) (sl := 0) (s_X7_isStatement_f l (d + 5) hv a2) mL_X7_87 iM_X7_isStatement sM_X7_isStatement (hv.sh rfl) rfl rfl rfl (Nat.le_of_ble_eq_true rfl) (show d + 5 + 1 + 1 ≤ d + 7 by omega) (show 8 + (2 + 11) + 40 * (d + 5 + 1) ≤ 40 * (d + 7) by omega) (g_c0 hv.ln) (Nat.le_of_ble_eq_true rfl) dX7_back_2 ?_
  intro r h1 hq _
  obtain ⟨v3, rfl, v3l, v3u, rfl, f4, f2⟩ := hq
  replace f2 : PE _ _ := f2
  have k5 := bd_e k0 f2.symm
  refine gf_if_ne (pc := 5) (tgt := 12) (ti_rfl v3) (by decide) dX7_back_5 (fun q6 => ?_) (fun q6 => ?_)
  ·
    have k7 := if_t k5 q6
    refine go_aload_n (pc := 12) rfl dX7_back_12 ?_
    refine gi_getF (pc := 13) (q := 49) hv fL_X7_42 rfl (Nat.le_of_ble_eq_true rfl) rfl (hv.rf (by decide)) dX7_back_13 ?_
    refine go_aload_n (pc := 16) rfl dX7_back_16 ?_
    refine gi_getC (pc := 17) hv fL_X7_23 rfl (Nat.le_of_ble_eq_true rfl) rfl (by decide) dX7_back_17 (fun c8 hc8 fc8 => ?_)
    have k9 := bd_e k7 (st_c fc8)
    refine go_invV (pc := 20) (sl := 0) (s_X4_prepare2_f l (d + 0) hv c8 hc8) mL_X7_113 iM_X4_prepare sM_X4_prepare (hv.sh rfl) rfl rfl rfl (Nat.le_of_ble_eq_true rfl) (show d + 0 + 6 + 1 ≤ d + 7 by omega) (show 8 + (4 + 11) + 40 * (d + 0 + 6) ≤ 40 * (d + 7) by omega) (g_c0 hv.ln) (Nat.le_of_ble_eq_true rfl) dX7_back_20 ?_
    intro r h10 hq _
    obtain ⟨rfl, hv10, f11, f12⟩ := hq
    have fx10 : FX KAc h h10 := FX.tr fx f12
    have k13 := bd_e k9 f11.symm
    refine go_aload_n (pc := 23) rfl dX7_back_23 ?_
    refine gi_getF (pc := 24) (q := 49) hv10 fL_X7_42 rfl (Nat.le_of_ble_eq_true rfl) rfl (hv10.rf (by decide)) dX7_back_24 ?_
    refine go_iload_n (pc := 27) rfl dX7_back_27 ?_
    refine go_invV (pc := 28) (sl := 0) (s_X4_backFrom2_f l (d + 1) hv10 a2 (by rw [show (a2 : Int32).toInt = a2.toInt from (ti_rfl a2)]; omega) (by rw [show (a2 : Int32).toInt = a2.toInt from (ti_rfl a2)]; omega)) mL_X7_142 iM_X4_backFrom sM_X4_backFrom (hv10.sh rfl) rfl rfl rfl (Nat.le_of_ble_eq_true rfl) (show d + 1 + 5 + 1 ≤ d + 7 by omega) (show 8 + (2 + 11) + 40 * (d + 1 + 5) ≤ 40 * (d + 7) by omega) (g_c0 hv10.ln) (Nat.le_of_ble_eq_true rfl) dX7_back_28 ?_
    intro r h14 hq _
    obtain ⟨v17, rfl, hv14, f15, f16⟩ := hq
    have fx14 : FX KAc h h14 := FX.tr fx10 f16
    have k18 := bd2_e k13 f15
    exact gi_lret (pc := 31) ⟨_, rfl, hv14, (k18.symm.trans kf), fx14⟩ hv14 dX7_back_31
  ·
    have k19 := if_f k5 (fun z => z q6)
    refine go_ldc2 (pc := 8) kL_X7_140 dX7_back_8 ?_
    exact gi_lret (pc := 11) ⟨_, rfl, hv, (k19.symm.trans kf), fx⟩ hv dX7_back_11
noncomputable def f_X7_forth2 (s : ST) (a2 : Int) : ST × Int64 :=
  bd (f_X7_isStatement s a2) fun v3 => if ¬ v3 = 0 then (bd (s.2.2 0 3) fun c8 => bd (f_X4_prepare2 s c8) fun s10 => bd2 (f_X4_forthFrom2 s10 a2) fun s14 v17 => (s14, v17)) else ((s, ((-1) : Int64)))
set_option maxHeartbeats 4000000 in
set_option maxRecDepth 100000 in
theorem s_X7_forth2_f (l : Launch) (d : Nat) {P : PP} {h : HP} (hv : Iv P h) (a2 : Int32) : Mt l yX7_forth cX7_forth 2 (some .long) (d + 7) [.ref 0, .int a2] h 0 0 (fun r h' => ∃ v : Int64, r = some (.long v) ∧ Iv P h' ∧ ((st h', v) = f_X7_forth2 (st h) a2.toInt) ∧ (FX KAc h h')) := by
  refine Mt_iv hv (by decide) (Nat.le_of_ble_eq_true rfl) ?_
  show Go l RX7 cX7_forth 2 (g_rm (d + 7) 0 0) "forth" (some .long) 117 0 0 (fun _ _ => True) (fun r h' => ∃ v : Int64, r = some (.long v) ∧ Iv P h' ∧ ((st h', v) = f_X7_forth2 (st h) a2.toInt) ∧ (FX KAc h h')) 0 0 [(0, .ref 0), (1, .int a2)] [] h
  have fx : FX KAc h h := FX.rfl
  obtain ⟨fin, kf⟩ : ∃ z, z = f_X7_forth2 (st h) a2.toInt := ⟨_, _root_.rfl⟩
  have k0 := kf
  unfold f_X7_forth2 at k0
  refine go_aload_n (pc := 0) rfl dX7_forth_0 ?_
  refine go_iload_n (pc := 1) rfl dX7_forth_1 ?_
  refine go_invV (pc := 2) (sl := 0) (s_X7_isStatement_f l (d + 5) hv a2) mL_X7_87 iM_X7_isStatement sM_X7_isStatement (hv.sh rfl) rfl rfl rfl (Nat.le_of_ble_eq_true rfl) (show d + 5 + 1 + 1 ≤ d + 7 by omega) (show 8 + (2 + 11) + 40 * (d + 5 + 1) ≤ 40 * (d + 7) by omega) (g_c0 hv.ln) (Nat.le_of_ble_eq_true rfl) dX7_forth_2 ?_
  intro r h1 hq _
  obtain ⟨v3, rfl, v3l, v3u, rfl, f4, f2⟩ := hq
  replace f2 : PE _ _ := f2
  have k5 := bd_e k0 f2.symm
  refine gf_if_ne (pc := 5) (tgt := 12) (ti_rfl v3) (by decide) dX7_forth_5 (fun q6 => ?_) (fun q6 => ?_)
  ·
    have k7 := if_t k5 q6
    refine go_aload_n (pc := 12) rfl dX7_forth_12 ?_
    refine gi_getF (pc := 13) (q := 49) hv fL_X7_42 rfl (Nat.le_of_ble_eq_true rfl) rfl (hv.rf (by decide)) dX7_forth_13 ?_
    refine go_aload_n (pc := 16) rfl dX7_forth_16 ?_
    refine gi_getC (pc := 17) hv fL_X7_23 rfl (Nat.le_of_ble_eq_true rfl) rfl (by decide) dX7_forth_17 (fun c8 hc8 fc8 => ?_)
    have k9 := bd_e k7 (st_c fc8)
    refine go_invV (pc := 20) (sl := 0) (s_X4_prepare2_f l (d + 0) hv c8 hc8) mL_X7_113 iM_X4_prepare sM_X4_prepare (hv.sh rfl) rfl rfl rfl (Nat.le_of_ble_eq_true rfl) (show d + 0 + 6 + 1 ≤ d + 7 by omega) (show 8 + (4 + 11) + 40 * (d + 0 + 6) ≤ 40 * (d + 7) by omega) (g_c0 hv.ln) (Nat.le_of_ble_eq_true rfl) dX7_forth_20 ?_
    intro r h10 hq _
    obtain ⟨rfl, hv10, f11, f12⟩ := hq
    have fx10 : FX KAc h h10 := FX.tr fx f12
    have k13 := bd_e k9 f11.symm
    refine go_aload_n (pc := 23) rfl dX7_forth_23 ?_
    refine gi_getF (pc := 24) (q := 49) hv10 fL_X7_42 rfl (Nat.le_of_ble_eq_true rfl) rfl (hv10.rf (by decide)) dX7_forth_24 ?_
    refine go_iload_n (pc := 27) rfl dX7_forth_27 ?_
    refine go_invV (pc := 28) (sl := 0) (s_X4_forthFrom2_f l (d + 0) hv10 a2) mL_X7_146 iM_X4_forthFrom sM_X4_forthFrom (hv10.sh rfl) rfl rfl rfl (Nat.le_of_ble_eq_true rfl) (show d + 0 + 6 + 1 ≤ d + 7 by omega) (show 8 + (5 + 11) + 40 * (d + 0 + 6) ≤ 40 * (d + 7) by omega) (g_c0 hv10.ln) (Nat.le_of_ble_eq_true rfl) dX7_forth_28 ?_
    intro r h14 hq _
    obtain ⟨v17, rfl, hv14, f15, f16⟩ := hq
    have fx14 : FX KAc h h14 := FX.tr fx10 f16
    have k18 := bd2_e k13 f15
    exact gi_lret (pc := 31) ⟨_, rfl, hv14, (k18.symm.trans kf), fx14⟩ hv14 dX7_forth_31
  ·
    have k19 := if_f k5 (fun z => z q6)
    refine go_ldc2 (pc := 8) kL_X7_140 dX7_forth_8 ?_
    exact gi_lret (pc := 11) ⟨_, rfl, hv, (k19.symm.trans kf), fx⟩ hv dX7_forth_11
noncomputable def f_X7_between2 (s : ST) (a2 : Int) (a3 : Int) : ST × Int64 :=
  bd (f_X7_isStatement s a2) fun v3 => if v3 = 0 then ((s, ((-1) : Int64))) else (bd (f_X7_isStatement s a3) fun v11 => if ¬ v11 = 0 then (bd (s.2.2 0 3) fun c16 => bd (f_X4_prepare2 s c16) fun s18 => bd2 (f_X4_forthFrom2 s18 a2) fun s22 v25 => bd2 (f_X4_backFrom2 s22 a3) fun s27 v30 => bd (o_land v25 v30) fun v32 => (s27, v32)) else ((s, ((-1) : Int64))))
set_option maxHeartbeats 4000000 in
set_option maxRecDepth 100000 in
theorem s_X7_between2_f (l : Launch) (d : Nat) {P : PP} {h : HP} (hv : Iv P h) (a2 : Int32) (a3 : Int32) : Mt l yX7_between cX7_between 3 (some .long) (d + 7) [.ref 0, .int a2, .int a3] h 0 0 (fun r h' => ∃ v : Int64, r = some (.long v) ∧ Iv P h' ∧ ((st h', v) = f_X7_between2 (st h) a2.toInt a3.toInt) ∧ (FX KAc h h')) := by
  refine Mt_iv hv (by decide) (Nat.le_of_ble_eq_true rfl) ?_
  show Go l RX7 cX7_between 3 (g_rm (d + 7) 0 0) "between" (some .long) 117 0 0 (fun _ _ => True) (fun r h' => ∃ v : Int64, r = some (.long v) ∧ Iv P h' ∧ ((st h', v) = f_X7_between2 (st h) a2.toInt a3.toInt) ∧ (FX KAc h h')) 0 0 [(0, .ref 0), (1, .int a2), (2, .int a3)] [] h
  have fx : FX KAc h h := FX.rfl
  obtain ⟨fin, kf⟩ : ∃ z, z = f_X7_between2 (st h) a2.toInt a3.toInt := ⟨_, _root_.rfl⟩
  have k0 := kf
  unfold f_X7_between2 at k0
  refine go_aload_n (pc := 0) rfl dX7_between_0 ?_
  refine go_iload_n (pc := 1) rfl dX7_between_1 ?_
  refine go_invV (pc := 2) (sl := 0) (s_X7_isStatement_f l (d + 5) hv a2) mL_X7_87 iM_X7_isStatement sM_X7_isStatement (hv.sh rfl) rfl rfl rfl (Nat.le_of_ble_eq_true rfl) (show d + 5 + 1 + 1 ≤ d + 7 by omega) (show 8 + (2 + 11) + 40 * (d + 5 + 1) ≤ 40 * (d + 7) by omega) (g_c0 hv.ln) (Nat.le_of_ble_eq_true rfl) dX7_between_2 ?_
  intro r h1 hq _
  obtain ⟨v3, rfl, v3l, v3u, rfl, f4, f2⟩ := hq
  replace f2 : PE _ _ := f2
  have k5 := bd_e k0 f2.symm
  refine gf_if_eq (pc := 5) (tgt := 16) (ti_rfl v3) (by decide) dX7_between_5 (fun q6 => ?_) (fun q6 => ?_)
  ·
    have k7 := if_t k5 q6
    refine go_ldc2 (pc := 16) kL_X7_140 dX7_between_16 ?_
    exact gi_lret (pc := 19) ⟨_, rfl, hv, (k7.symm.trans kf), fx⟩ hv dX7_between_19
  ·
    have k8 := if_f k5 q6
    refine go_aload_n (pc := 8) rfl dX7_between_8 ?_
    refine go_iload_n (pc := 9) rfl dX7_between_9 ?_
    refine go_invV (pc := 10) (sl := 0) (s_X7_isStatement_f l (d + 5) hv a3) mL_X7_87 iM_X7_isStatement sM_X7_isStatement (hv.sh rfl) rfl rfl rfl (Nat.le_of_ble_eq_true rfl) (show d + 5 + 1 + 1 ≤ d + 7 by omega) (show 8 + (2 + 11) + 40 * (d + 5 + 1) ≤ 40 * (d + 7) by omega) (g_c0 hv.ln) (Nat.le_of_ble_eq_true rfl) dX7_between_10 ?_
    intro r h9 hq _
    obtain ⟨v11, rfl, v11l, v11u, rfl, f12, f10⟩ := hq
    replace f10 : PE _ _ := f10
    have k13 := bd_e k8 f10.symm
    refine gf_if_ne (pc := 13) (tgt := 20) (ti_rfl v11) (by decide) dX7_between_13 (fun q14 => ?_) (fun q14 => ?_)
    ·
      have k15 := if_t k13 q14
      refine go_aload_n (pc := 20) rfl dX7_between_20 ?_
      refine gi_getF (pc := 21) (q := 49) hv fL_X7_42 rfl (Nat.le_of_ble_eq_true rfl) rfl (hv.rf (by decide)) dX7_between_21 ?_
      refine go_aload_n (pc := 24) rfl dX7_between_24 ?_
      refine gi_getC (pc := 25) hv fL_X7_23 rfl (Nat.le_of_ble_eq_true rfl) rfl (by decide) dX7_between_25 (fun c16 hc16 fc16 => ?_)
      have k17 := bd_e k15 (st_c fc16)
      refine go_invV (pc := 28) (sl := 0) (s_X4_prepare2_f l (d + 0) hv c16 hc16) mL_X7_113 iM_X4_prepare sM_X4_prepare (hv.sh rfl) rfl rfl rfl (Nat.le_of_ble_eq_true rfl) (show d + 0 + 6 + 1 ≤ d + 7 by omega) (show 8 + (4 + 11) + 40 * (d + 0 + 6) ≤ 40 * (d + 7) by omega) (g_c0 hv.ln) (Nat.le_of_ble_eq_true rfl) dX7_between_28 ?_
      intro r h18 hq _
      obtain ⟨rfl, hv18, f19, f20⟩ := hq
      have fx18 : FX KAc h h18 := FX.tr fx f20
      have k21 := bd_e k17 f19.symm
      refine go_aload_n (pc := 31) rfl dX7_between_31 ?_
      refine gi_getF (pc := 32) (q := 49) hv18 fL_X7_42 rfl (Nat.le_of_ble_eq_true rfl) rfl (hv18.rf (by decide)) dX7_between_32 ?_
      refine go_iload_n (pc := 35) rfl dX7_between_35 ?_
      refine go_invV (pc := 36) (sl := 0) (s_X4_forthFrom2_f l (d + 0) hv18 a2) mL_X7_146 iM_X4_forthFrom sM_X4_forthFrom (hv18.sh rfl) rfl rfl rfl (Nat.le_of_ble_eq_true rfl) (show d + 0 + 6 + 1 ≤ d + 7 by omega) (show 8 + (5 + 11) + 40 * (d + 0 + 6) ≤ 40 * (d + 7) by omega) (g_c0 hv18.ln) (Nat.le_of_ble_eq_true rfl) dX7_between_36 ?_
      intro r h22 hq _
      obtain ⟨v25, rfl, hv22, f23, f24⟩ := hq
      have fx22 : FX KAc h h22 := FX.tr fx18 f24
      have k26 := bd2_e k21 f23
      refine go_aload_n (pc := 39) rfl dX7_between_39 ?_
      refine gi_getF (pc := 40) (q := 49) hv22 fL_X7_42 rfl (Nat.le_of_ble_eq_true rfl) rfl (hv22.rf (by decide)) dX7_between_40 ?_
      refine go_iload_n (pc := 43) rfl dX7_between_43 ?_
      refine go_invV (pc := 44) (sl := 0) (s_X4_backFrom2_f l (d + 1) hv22 a3 (by rw [show (a3 : Int32).toInt = a3.toInt from (ti_rfl a3)]; omega) (by rw [show (a3 : Int32).toInt = a3.toInt from (ti_rfl a3)]; omega)) mL_X7_142 iM_X4_backFrom sM_X4_backFrom (hv22.sh rfl) rfl rfl rfl (Nat.le_of_ble_eq_true rfl) (show d + 1 + 5 + 1 ≤ d + 7 by omega) (show 8 + (2 + 11) + 40 * (d + 1 + 5) ≤ 40 * (d + 7) by omega) (g_c0 hv22.ln) (Nat.le_of_ble_eq_true rfl) dX7_between_44 ?_
      intro r h27 hq _
      obtain ⟨v30, rfl, hv27, f28, f29⟩ := hq
      have fx27 : FX KAc h h27 := FX.tr fx22 f29
      have k31 := bd2_e k26 f28
      refine gx_land (pc := 47) dX7_between_47 (fun v32 v32x => ?_)
      have k33 := bd_e k31 (so_land v32x)
      exact gi_lret (pc := 48) ⟨_, rfl, hv27, (k33.symm.trans kf), fx27⟩ hv27 dX7_between_48
    ·
      have k34 := if_f k13 (fun z => z q14)
      refine go_ldc2 (pc := 16) kL_X7_140 dX7_between_16 ?_
      exact gi_lret (pc := 19) ⟨_, rfl, hv, (k34.symm.trans kf), fx⟩ hv dX7_between_19
noncomputable def f_X7_backOf2 (s : ST) (a2 : Int) (a3 : Int) : ST × Int64 :=
  bd (f_X7_isProcedure2 s a2) fun v3 => if v3 = 0 then ((s, ((-1) : Int64))) else (bd (f_X7_isPort2 s a3) fun v11 => if ¬ v11 = 0 then (bd (s.2.2 0 3) fun c16 => bd (f_X4_prepare2 s c16) fun s18 => bd2 (f_X4_backFromOut2 s18 a2 a3) fun s22 v25 => (s22, v25)) else ((s, ((-1) : Int64))))
set_option maxHeartbeats 4000000 in
set_option maxRecDepth 100000 in
theorem s_X7_backOf2_f (l : Launch) (d : Nat) {P : PP} {h : HP} (hv : Iv P h) (a2 : Int32) (a3 : Int32) : Mt l yX7_backOf cX7_backOf 3 (some .long) (d + 7) [.ref 0, .int a2, .int a3] h 0 0 (fun r h' => ∃ v : Int64, r = some (.long v) ∧ Iv P h' ∧ ((st h', v) = f_X7_backOf2 (st h) a2.toInt a3.toInt) ∧ (FX KAc h h')) := by
  refine Mt_iv hv (by decide) (Nat.le_of_ble_eq_true rfl) ?_
  show Go l RX7 cX7_backOf 3 (g_rm (d + 7) 0 0) "backOf" (some .long) 117 0 0 (fun _ _ => True) (fun r h' => ∃ v : Int64, r = some (.long v) ∧ Iv P h' ∧ ((st h', v) = f_X7_backOf2 (st h) a2.toInt a3.toInt) ∧ (FX KAc h h')) 0 0 [(0, .ref 0), (1, .int a2), (2, .int a3)] [] h
  have fx : FX KAc h h := FX.rfl
  obtain ⟨fin, kf⟩ : ∃ z, z = f_X7_backOf2 (st h) a2.toInt a3.toInt := ⟨_, _root_.rfl⟩
  have k0 := kf
  unfold f_X7_backOf2 at k0
  refine go_aload_n (pc := 0) rfl dX7_backOf_0 ?_
  refine go_iload_n (pc := 1) rfl dX7_backOf_1 ?_
  refine go_invV (pc := 2) (sl := 0) (s_X7_isProcedure2_f l (d + 5) hv a2) mL_X7_126 iM_X7_isProcedure sM_X7_isProcedure (hv.sh rfl) rfl rfl rfl (Nat.le_of_ble_eq_true rfl) (show d + 5 + 1 + 1 ≤ d + 7 by omega) (show 8 + (2 + 11) + 40 * (d + 5 + 1) ≤ 40 * (d + 7) by omega) (g_c0 hv.ln) (Nat.le_of_ble_eq_true rfl) dX7_backOf_2 ?_
  intro r h1 hq _
  obtain ⟨v3, rfl, v3l, v3u, rfl, f4, f2⟩ := hq
  replace f2 : PE _ _ := f2
  have k5 := bd_e k0 f2.symm
  refine gf_if_eq (pc := 5) (tgt := 15) (ti_rfl v3) (by decide) dX7_backOf_5 (fun q6 => ?_) (fun q6 => ?_)
  ·
    have k7 := if_t k5 q6
    refine go_ldc2 (pc := 15) kL_X7_140 dX7_backOf_15 ?_
    exact gi_lret (pc := 18) ⟨_, rfl, hv, (k7.symm.trans kf), fx⟩ hv dX7_backOf_18
  ·
    have k8 := if_f k5 q6
    refine go_iload_n (pc := 8) rfl dX7_backOf_8 ?_
    refine go_invS (pc := 9) (sl := 0) (s_X7_isPort2_f l (d + 5) hv a3) mL_X7_133 iM_X7_isPort rfl rfl (Nat.le_of_ble_eq_true rfl) (show d + 5 + 1 + 1 ≤ d + 7 by omega) (show 8 + (1 + 11) + 40 * (d + 5 + 1) ≤ 40 * (d + 7) by omega) (g_c0 hv.ln) (Nat.le_of_ble_eq_true rfl) dX7_backOf_9 ?_
    intro r h9 hq _
    obtain ⟨v11, rfl, v11l, v11u, rfl, f12, f10⟩ := hq
    replace f10 : PE _ _ := f10
    have k13 := bd_e k8 f10.symm
    refine gf_if_ne (pc := 12) (tgt := 19) (ti_rfl v11) (by decide) dX7_backOf_12 (fun q14 => ?_) (fun q14 => ?_)
    ·
      have k15 := if_t k13 q14
      refine go_aload_n (pc := 19) rfl dX7_backOf_19 ?_
      refine gi_getF (pc := 20) (q := 49) hv fL_X7_42 rfl (Nat.le_of_ble_eq_true rfl) rfl (hv.rf (by decide)) dX7_backOf_20 ?_
      refine go_aload_n (pc := 23) rfl dX7_backOf_23 ?_
      refine gi_getC (pc := 24) hv fL_X7_23 rfl (Nat.le_of_ble_eq_true rfl) rfl (by decide) dX7_backOf_24 (fun c16 hc16 fc16 => ?_)
      have k17 := bd_e k15 (st_c fc16)
      refine go_invV (pc := 27) (sl := 0) (s_X4_prepare2_f l (d + 0) hv c16 hc16) mL_X7_113 iM_X4_prepare sM_X4_prepare (hv.sh rfl) rfl rfl rfl (Nat.le_of_ble_eq_true rfl) (show d + 0 + 6 + 1 ≤ d + 7 by omega) (show 8 + (4 + 11) + 40 * (d + 0 + 6) ≤ 40 * (d + 7) by omega) (g_c0 hv.ln) (Nat.le_of_ble_eq_true rfl) dX7_backOf_27 ?_
      intro r h18 hq _
      obtain ⟨rfl, hv18, f19, f20⟩ := hq
      have fx18 : FX KAc h h18 := FX.tr fx f20
      have k21 := bd_e k17 f19.symm
      refine go_aload_n (pc := 30) rfl dX7_backOf_30 ?_
      refine gi_getF (pc := 31) (q := 49) hv18 fL_X7_42 rfl (Nat.le_of_ble_eq_true rfl) rfl (hv18.rf (by decide)) dX7_backOf_31 ?_
      refine go_iload_n (pc := 34) rfl dX7_backOf_34 ?_
      refine go_iload_n (pc := 35) rfl dX7_backOf_35 ?_
      refine go_invV (pc := 36) (sl := 0) (s_X4_backFromOut2_f l (d + 1) hv18 a2 (by rw [show (a2 : Int32).toInt = a2.toInt from (ti_rfl a2)]; omega) (by rw [show (a2 : Int32).toInt = a2.toInt from (ti_rfl a2)]; omega) a3 (by rw [show (a3 : Int32).toInt = a3.toInt from (ti_rfl a3)]; omega) (by rw [show (a3 : Int32).toInt = a3.toInt from (ti_rfl a3)]; omega)) mL_X7_149 iM_X4_backFromOut sM_X4_backFromOut (hv18.sh rfl) rfl rfl rfl (Nat.le_of_ble_eq_true rfl) (show d + 1 + 5 + 1 ≤ d + 7 by omega) (show 8 + (3 + 11) + 40 * (d + 1 + 5) ≤ 40 * (d + 7) by omega) (g_c0 hv18.ln) (Nat.le_of_ble_eq_true rfl) dX7_backOf_36 ?_
      intro r h22 hq _
      obtain ⟨v25, rfl, hv22, f23, f24⟩ := hq
      have fx22 : FX KAc h h22 := FX.tr fx18 (FX.mono (fun c j z => by unfold KAc at z; unfold KQ; omega) f24)
      have k26 := bd2_e k21 f23
      exact gi_lret (pc := 39) ⟨_, rfl, hv22, (k26.symm.trans kf), fx22⟩ hv22 dX7_backOf_39
    ·
      have k27 := if_f k13 (fun z => z q14)
      refine go_ldc2 (pc := 15) kL_X7_140 dX7_backOf_15 ?_
      exact gi_lret (pc := 18) ⟨_, rfl, hv, (k27.symm.trans kf), fx⟩ hv dX7_backOf_18
set_option maxHeartbeats 4000000 in
set_option maxRecDepth 100000 in
theorem s_J7_fill_53178_at65_f (l : Launch) (d : Nat) {P : PP} {h : HP} (hv : Iv P h) (a2 : Int32) : Mt l yJ7_fill_53178 cJ7_fill_53178 4 none (d + 1) [.ref 65, .int a2] h 0 0 (fun r h' => r = none ∧ Iv P h' ∧ (FX KAm h h')) := by
  refine Mt_iv hv (by decide) (Nat.le_of_ble_eq_true rfl) ?_
  show Go l RJ7 cJ7_fill_53178 4 (g_rm (d + 1) 0 0) "fill" none 117 0 0 (fun _ _ => True) (fun r h' => r = none ∧ Iv P h' ∧ (FX KAm h h')) 0 0 [(0, .ref 65), (1, .int a2)] [] h
  have fx : FX KAm h h := FX.rfl
  have key : ∀ n : Nat, (∀ (l1 : Int32) (l2 : Int32) (l3 : Int32) (hx : HP), Iv P hx → 0 ≤ l2.toInt → l2.toInt ≤ 4 → 4 ≤ l3.toInt → l3.toInt ≤ 4 → FX KAm h hx → (3 * (4 - l2.toInt) + 2 : Int) < n → Go l RJ7 cJ7_fill_53178 4 (g_rm (d + 1) 0 0) "fill" none 117 0 0 (fun _ _ => True) (fun r h' => r = none ∧ Iv P h' ∧ (FX KAm h h')) 0 5 [(0, .ref 65), (1, .int l1), (2, .int l2), (3, .int l3)] [] hx) := by
    intro n
    induction n with
    | zero => exact (by intros; omega)
    | succ n ih =>
      refine ?_
      ·
        intro l1 l2 l3 hx hvx l2l l2u l3l l3u fxx hm
        refine go_iload_n (pc := 5) rfl dJ7_fill_53178_5 ?_
        refine go_iload_n (pc := 6) rfl dJ7_fill_53178_6 ?_
        refine gf_icmp_ge (pc := 7) (tgt := 20) (ti_rfl l2) (ti_rfl l3) (by decide) dJ7_fill_53178_7 (fun q1 => ?_) (fun q1 => ?_)
        ·
          exact gi_vret (pc := 20) ⟨rfl, hvx, fxx⟩ hvx dJ7_fill_53178_20
        ·
          refine go_aload_n (pc := 10) rfl dJ7_fill_53178_10 ?_
          refine go_iload_n (pc := 11) rfl dJ7_fill_53178_11 ?_
          refine go_iload_n (pc := 12) rfl dJ7_fill_53178_12 ?_
          refine gi_iast (pc := 13) (lo := -2147483648) (hi := 2147483647) (len := 4) hvx (ti_rfl l2) (ti_rfl l1) rfl (by omega) (by omega) (fun _ => rfl) (ti_ge (ti_rfl l1)) (ti_le2 (ti_rfl l1)) (by decide) dJ7_fill_53178_13 (fun h2 hv2 hv2e => ?_)
          have fx2 : FX KAm h h2 := FX.pI fxx hv2e (by unfold KAm; omega)
          refine gf_iinc (pc := 14) (Nat.le_of_ble_eq_true rfl) rfl (ti_rfl l2) (ti_c (by decide)) (by omega) (by omega) dJ7_fill_53178_14 (fun v3 e4 => ?_)
          refine go_lv (lv2 := [(0, .ref 65), (1, .int l1), (2, .int v3), (3, .int l3)]) rfl ?_
          refine go_goto (pc := 17) (tgt := 5) (by decide) dJ7_fill_53178_17 ?_
          have z5 : (v3 : Int32).toInt = (l2.toInt + 1) := e4
          exact go_lv rfl (ih l1 v3 l3 h2 hv2 (by omega) (by omega) (by omega) (by omega) fx2 (by omega))
  refine go_iconst (pc := 0) (v := 0) (by decide) dJ7_fill_53178_0 ?_
  refine go_istore_n (pc := 1) (Nat.le_of_ble_eq_true rfl) dJ7_fill_53178_1 (go_lv (lv2 := [(0, .ref 65), (1, .int a2), (2, .int 0)]) rfl ?_)
  refine go_aload_n (pc := 2) rfl dJ7_fill_53178_2 ?_
  refine go_alen (pc := 3) (v := 4) (hv.sh rfl) (by decide) (by decide) dJ7_fill_53178_3 ?_
  refine go_istore_n (pc := 4) (Nat.le_of_ble_eq_true rfl) dJ7_fill_53178_4 (go_lv (lv2 := [(0, .ref 65), (1, .int a2), (2, .int 0), (3, .int 4)]) rfl ?_)
  have z6 : (0 : Int32).toInt = 0 := (ti_c (v := 0) (a := 0) (by decide))
  have z7 : (4 : Int32).toInt = 4 := (ti_c (v := 4) (a := 4) (by decide))
  exact go_lv rfl ((key 31) a2 0 4 h hv (by omega) (by omega) (by omega) (by omega) fx (by omega))
set_option maxHeartbeats 4000000 in
set_option maxRecDepth 100000 in
theorem s_X2_enter_f (l : Launch) (d : Nat) {P : PP} {h : HP} (hv : Iv P h) (a2 : Int32) (a2l : 0 ≤ a2.toInt) (a2u : a2.toInt ≤ 4) (a3 : Int32) (a4 : Int32) : Mt l yX2_enter cX2_enter 6 none (d + 1) [.ref 64, .int a2, .int a3, .int a4] h 0 0 (fun r h' => r = none ∧ Iv P h' ∧ (FX KAm h h')) := by
  refine Mt_iv hv (by decide) (Nat.le_of_ble_eq_true rfl) ?_
  show Go l RX2 cX2_enter 6 (g_rm (d + 1) 0 0) "enter" none 117 0 0 (fun _ _ => True) (fun r h' => r = none ∧ Iv P h' ∧ (FX KAm h h')) 0 0 [(0, .ref 64), (1, .int a2), (2, .int a3), (3, .int a4)] [] h
  have fx : FX KAm h h := FX.rfl
  have key : ∀ n : Nat, (∀ (l1 : Int32) (l2 : Int32) (l3 : Int32) (l4 : Int32) (l5 : Int32) (hx : HP), Iv P hx → 0 ≤ l1.toInt → l1.toInt ≤ 4 → 0 ≤ l4.toInt → l4.toInt ≤ 180 → 0 ≤ l5.toInt → l5.toInt ≤ 6 → FX KAm h hx → (3 * (6 - l5.toInt) + 2 : Int) < n → Go l RX2 cX2_enter 6 (g_rm (d + 1) 0 0) "enter" none 117 0 0 (fun _ _ => True) (fun r h' => r = none ∧ Iv P h' ∧ (FX KAm h h')) 0 12 [(0, .ref 64), (1, .int l1), (2, .int l2), (3, .int l3), (4, .int l4), (5, .int l5)] [] hx) := by
    intro n
    induction n with
    | zero => exact (by intros; omega)
    | succ n ih =>
      refine ?_
      ·
        intro l1 l2 l3 l4 l5 hx hvx l1l l1u l4l l4u l5l l5u fxx hm
        refine go_iload (pc := 12) rfl dX2_enter_12 ?_
        refine go_bipush (pc := 14) (v := 6) (by decide) dX2_enter_14 ?_
        refine gf_icmp_ge (pc := 16) (tgt := 36) (ti_rfl l5) (ti_c (v := 6) (a := 6) (by decide)) (by decide) dX2_enter_16 (fun q1 => ?_) (fun q1 => ?_)
        ·
          refine go_aload_n (pc := 36) rfl dX2_enter_36 ?_
          refine gi_getF (pc := 37) (q := 66) hvx fL_X2_15 rfl (Nat.le_of_ble_eq_true rfl) rfl (hvx.rf (by decide)) dX2_enter_37 ?_
          refine go_iload (pc := 40) rfl dX2_enter_40 ?_
          refine go_iload_n (pc := 42) rfl dX2_enter_42 ?_
          refine gi_iast (pc := 43) (lo := -2147483648) (hi := 2147483647) (len := 186) hvx (ti_rfl l4) (ti_rfl l2) rfl (by omega) (by omega) (fun _ => rfl) (ti_ge (ti_rfl l2)) (ti_le2 (ti_rfl l2)) (by decide) dX2_enter_43 (fun h2 hv2 hv2e => ?_)
          have fx2 : FX KAm h h2 := FX.pI fxx hv2e (by unfold KAm; omega)
          refine go_aload_n (pc := 44) rfl dX2_enter_44 ?_
          refine gi_getF (pc := 45) (q := 66) hv2 fL_X2_15 rfl (Nat.le_of_ble_eq_true rfl) rfl (hv2.rf (by decide)) dX2_enter_45 ?_
          refine go_iload (pc := 48) rfl dX2_enter_48 ?_
          refine go_iconst (pc := 50) (v := 1) (by decide) dX2_enter_50 ?_
          refine gf_iadd (pc := 51) (ti_rfl l4) (ti_c (v := 1) (a := 1) (by decide)) (by omega) (by omega) dX2_enter_51 (fun v3 e4 => ?_)
          refine go_iload_n (pc := 52) rfl dX2_enter_52 ?_
          refine gi_iast (pc := 53) (lo := -2147483648) (hi := 2147483647) (len := 186) hv2 e4 (ti_rfl l3) rfl (by omega) (by omega) (fun _ => rfl) (ti_ge (ti_rfl l3)) (ti_le2 (ti_rfl l3)) (by decide) dX2_enter_53 (fun h5 hv5 hv5e => ?_)
          have fx5 : FX KAm h h5 := FX.pI fx2 hv5e (by unfold KAm; omega)
          refine go_aload_n (pc := 54) rfl dX2_enter_54 ?_
          refine go_aload_n (pc := 55) rfl dX2_enter_55 ?_
          refine gi_getC (pc := 56) hv5 fL_X2_50 rfl (Nat.le_of_ble_eq_true rfl) rfl (by decide) dX2_enter_56 (fun c6 hc6 fc6 => ?_)
          refine gi_getF (pc := 59) (q := c6 + 1) hv5 fL_X2_68 (by rcases hc6 with rfl | rfl <;> rfl) (Nat.le_of_ble_eq_true rfl) rfl (by rcases hc6 with rfl | rfl <;> exact hv5.rf (by decide)) dX2_enter_59 ?_
          refine go_iload_n (pc := 62) rfl dX2_enter_62 ?_
          refine gi_iald (pc := 63) (lo := 0) (hi := 44) (len := 5) hv5 (ti_rfl l1) (by rcases hc6 with rfl | rfl <;> rfl) (by omega) (by omega) (fun _ => by rcases hc6 with rfl | rfl <;> rfl) dX2_enter_63 (fun v7 v7l v7u v7w => ?_)
          refine gi_put (pc := 64) (lo := 0) (hi := 44) hv5 (ti_rfl v7) (fP_X2_25 _) rfl (Nat.le_of_ble_eq_true rfl) rfl rfl (by omega) (by omega) rfl rfl (by decide) (by decide) (by decide) (by decide) dX2_enter_64 (fun h8 hv8 hv8e => ?_)
          have fx8 : FX KAm h h8 := FX.pI fx5 hv8e (by unfold KAm; omega)
          exact gi_vret (pc := 67) ⟨rfl, hv8, fx8⟩ hv8 dX2_enter_67
        ·
          refine go_aload_n (pc := 19) rfl dX2_enter_19 ?_
          refine gi_getF (pc := 20) (q := 66) hvx fL_X2_15 rfl (Nat.le_of_ble_eq_true rfl) rfl (hvx.rf (by decide)) dX2_enter_20 ?_
          refine go_iload (pc := 23) rfl dX2_enter_23 ?_
          refine go_iload (pc := 25) rfl dX2_enter_25 ?_
          refine gf_iadd (pc := 27) (ti_rfl l4) (ti_rfl l5) (by omega) (by omega) dX2_enter_27 (fun v9 e10 => ?_)
          refine go_iconst (pc := 28) (v := 0) (by decide) dX2_enter_28 ?_
          refine gi_iast (pc := 29) (lo := -2147483648) (hi := 2147483647) (len := 186) hvx e10 (ti_c (v := 0) (a := 0) (by decide)) rfl (by omega) (by omega) (fun _ => rfl) (ti_ge (ti_c (v := 0) (a := 0) (by decide))) (ti_le2 (ti_c (v := 0) (a := 0) (by decide))) (by decide) dX2_enter_29 (fun h11 hv11 hv11e => ?_)
          have fx11 : FX KAm h h11 := FX.pI fxx hv11e (by unfold KAm; omega)
          refine gf_iinc (pc := 30) (Nat.le_of_ble_eq_true rfl) rfl (ti_rfl l5) (ti_c (by decide)) (by omega) (by omega) dX2_enter_30 (fun v12 e13 => ?_)
          refine go_lv (lv2 := [(0, .ref 64), (1, .int l1), (2, .int l2), (3, .int l3), (4, .int l4), (5, .int v12)]) rfl ?_
          refine go_goto (pc := 33) (tgt := 12) (by decide) dX2_enter_33 ?_
          have z14 : (v12 : Int32).toInt = (l5.toInt + 1) := e13
          exact go_lv rfl (ih l1 l2 l3 l4 v12 h11 hv11 (by omega) (by omega) (by omega) (by omega) (by omega) (by omega) fx11 (by omega))
  refine go_aload_n (pc := 0) rfl dX2_enter_0 ?_
  refine gi_get (pc := 1) (lo := 0) (hi := 30) hv fL_X2_21 rfl (Nat.le_of_ble_eq_true rfl) rfl rfl dX2_enter_1 (fun v15 v15l v15u v15w => ?_)
  refine go_bipush (pc := 4) (v := 6) (by decide) dX2_enter_4 ?_
  refine gf_imul (pc := 6) (ti_rfl v15) (ti_c (v := 6) (a := 6) (by decide)) (by omega) (by omega) dX2_enter_6 (fun v16 e17 => ?_)
  refine go_istore (pc := 7) (Nat.le_of_ble_eq_true rfl) dX2_enter_7 (go_lv (lv2 := [(0, .ref 64), (1, .int a2), (2, .int a3), (3, .int a4), (4, .int v16)]) rfl ?_)
  refine go_iconst (pc := 9) (v := 0) (by decide) dX2_enter_9 ?_
  refine go_istore (pc := 10) (Nat.le_of_ble_eq_true rfl) dX2_enter_10 (go_lv (lv2 := [(0, .ref 64), (1, .int a2), (2, .int a3), (3, .int a4), (4, .int v16), (5, .int 0)]) rfl ?_)
  have z18 : (v16 : Int32).toInt = (v15.toInt * 6) := e17
  have z19 : (0 : Int32).toInt = 0 := (ti_c (v := 0) (a := 0) (by decide))
  exact go_lv rfl ((key 37) a2 a3 a4 v16 0 h hv (by omega) (by omega) (by omega) (by omega) (by omega) (by omega) fx (by omega))
set_option maxHeartbeats 4000000 in
set_option maxRecDepth 100000 in
theorem s_X2_store_f (l : Launch) (d : Nat) {P : PP} {h : HP} (hv : Iv P h) (a2 : Int32) (a2l : -1 ≤ a2.toInt) (a2u : a2.toInt ≤ 9) (a3 : Int32) : Mt l yX2_store cX2_store 3 none (d + 1) [.ref 64, .int a2, .int a3] h 0 0 (fun r h' => r = none ∧ Iv P h' ∧ (FX KAm h h')) := by
  refine Mt_iv hv (by decide) (Nat.le_of_ble_eq_true rfl) ?_
  show Go l RX2 cX2_store 3 (g_rm (d + 1) 0 0) "store" none 117 0 0 (fun _ _ => True) (fun r h' => r = none ∧ Iv P h' ∧ (FX KAm h h')) 0 0 [(0, .ref 64), (1, .int a2), (2, .int a3)] [] h
  have fx : FX KAm h h := FX.rfl
  have key : ∀ n : Nat, (∀  (hx : HP), Iv P hx → FX KAm h hx → (1 : Int) < n → Go l RX2 cX2_store 3 (g_rm (d + 1) 0 0) "store" none 117 0 0 (fun _ _ => True) (fun r h' => r = none ∧ Iv P h' ∧ (FX KAm h h')) 0 38 [] [] hx) := by
    intro n
    induction n with
    | zero => exact (by intros; omega)
    | succ n ih =>
      refine ?_
      ·
        intro hx hvx fxx hm
        exact gi_vret (pc := 38) ⟨rfl, hvx, fxx⟩ hvx dX2_store_38
  refine go_iload_n (pc := 0) rfl dX2_store_0 ?_
  refine go_bipush (pc := 1) (v := 6) (by decide) dX2_store_1 ?_
  refine gf_icmp_lt (pc := 3) (tgt := 19) (ti_rfl a2) (ti_c (v := 6) (a := 6) (by decide)) (by decide) dX2_store_3 (fun q1 => ?_) (fun q1 => ?_)
  ·
    refine go_iload_n (pc := 19) rfl dX2_store_19 ?_
    refine gf_if_lt (pc := 20) (tgt := 38) (ti_rfl a2) (by decide) dX2_store_20 (fun q2 => ?_) (fun q2 => ?_)
    ·
      exact go_lv rfl ((key 14)  h hv fx (by omega))
    ·
      refine go_aload_n (pc := 23) rfl dX2_store_23 ?_
      refine gi_getF (pc := 24) (q := 66) hv fL_X2_15 rfl (Nat.le_of_ble_eq_true rfl) rfl (hv.rf (by decide)) dX2_store_24 ?_
      refine go_aload_n (pc := 27) rfl dX2_store_27 ?_
      refine gi_get (pc := 28) (lo := 0) (hi := 30) hv fL_X2_21 rfl (Nat.le_of_ble_eq_true rfl) rfl rfl dX2_store_28 (fun v3 v3l v3u v3w => ?_)
      refine go_bipush (pc := 31) (v := 6) (by decide) dX2_store_31 ?_
      refine gf_imul (pc := 33) (ti_rfl v3) (ti_c (v := 6) (a := 6) (by decide)) (by omega) (by omega) dX2_store_33 (fun v4 e5 => ?_)
      refine go_iload_n (pc := 34) rfl dX2_store_34 ?_
      refine gf_iadd (pc := 35) e5 (ti_rfl a2) (by omega) (by omega) dX2_store_35 (fun v6 e7 => ?_)
      refine go_iload_n (pc := 36) rfl dX2_store_36 ?_
      refine gi_iast (pc := 37) (lo := -2147483648) (hi := 2147483647) (len := 186) hv e7 (ti_rfl a3) rfl (by omega) (by omega) (fun _ => rfl) (ti_ge (ti_rfl a3)) (ti_le2 (ti_rfl a3)) (by decide) dX2_store_37 (fun h8 hv8 hv8e => ?_)
      have fx8 : FX KAm h h8 := FX.pI fx hv8e (by unfold KAm; omega)
      exact go_lv rfl ((key 14)  h8 hv8 fx8 (by omega))
  ·
    refine go_aload_n (pc := 6) rfl dX2_store_6 ?_
    refine gi_getF (pc := 7) (q := 65) hv fL_X2_9 rfl (Nat.le_of_ble_eq_true rfl) rfl (hv.rf (by decide)) dX2_store_7 ?_
    refine go_iload_n (pc := 10) rfl dX2_store_10 ?_
    refine go_bipush (pc := 11) (v := 6) (by decide) dX2_store_11 ?_
    refine gf_isub (pc := 13) (ti_rfl a2) (ti_c (v := 6) (a := 6) (by decide)) (by omega) (by omega) dX2_store_13 (fun v9 e10 => ?_)
    refine go_iload_n (pc := 14) rfl dX2_store_14 ?_
    refine gi_iast (pc := 15) (lo := -2147483648) (hi := 2147483647) (len := 4) hv e10 (ti_rfl a3) rfl (by omega) (by omega) (fun _ => rfl) (ti_ge (ti_rfl a3)) (ti_le2 (ti_rfl a3)) (by decide) dX2_store_15 (fun h11 hv11 hv11e => ?_)
    have fx11 : FX KAm h h11 := FX.pI fx hv11e (by unfold KAm; omega)
    refine go_goto (pc := 16) (tgt := 38) (by decide) dX2_store_16 ?_
    exact go_lv rfl ((key 14)  h11 hv11 fx11 (by omega))
set_option maxHeartbeats 4000000 in
set_option maxRecDepth 100000 in
theorem s_X2_see_f (l : Launch) (d : Nat) {P : PP} {h : HP} (hv : Iv P h) (a2 : Int32) (a3 : Int32) : Mt l yX2_see cX2_see 3 none (d + 1) [.ref 64, .int a2, .int a3] h 0 0 (fun r h' => r = none ∧ Iv P h' ∧ (FX KAm h h')) := by
  refine Mt_iv hv (by decide) (Nat.le_of_ble_eq_true rfl) ?_
  show Go l RX2 cX2_see 3 (g_rm (d + 1) 0 0) "see" none 117 0 0 (fun _ _ => True) (fun r h' => r = none ∧ Iv P h' ∧ (FX KAm h h')) 0 0 [(0, .ref 64), (1, .int a2), (2, .int a3)] [] h
  have fx : FX KAm h h := FX.rfl
  have key : ∀ n : Nat, (∀  (hx : HP), Iv P hx → FX KAm h hx → (1 : Int) < n → Go l RX2 cX2_see 3 (g_rm (d + 1) 0 0) "see" none 117 0 0 (fun _ _ => True) (fun r h' => r = none ∧ Iv P h' ∧ (FX KAm h h')) 0 40 [] [] hx) := by
    intro n
    induction n with
    | zero => exact (by intros; omega)
    | succ n ih =>
      refine ?_
      ·
        intro hx hvx fxx hm
        exact gi_vret (pc := 40) ⟨rfl, hvx, fxx⟩ hvx dX2_see_40
  refine go_aload_n (pc := 0) rfl dX2_see_0 ?_
  refine gi_get (pc := 1) (lo := 0) (hi := 500) hv fL_X2_43 rfl (Nat.le_of_ble_eq_true rfl) rfl rfl dX2_see_1 (fun v1 v1l v1u v1w => ?_)
  refine go_sipush (pc := 4) (v := 500) (by decide) dX2_see_4 ?_
  refine gf_icmp_ge (pc := 7) (tgt := 40) (ti_rfl v1) (ti_c (v := 500) (a := 500) (by decide)) (by decide) dX2_see_7 (fun q2 => ?_) (fun q2 => ?_)
  ·
    exact go_lv rfl ((key 14)  h hv fx (by omega))
  ·
    refine go_aload_n (pc := 10) rfl dX2_see_10 ?_
    refine gi_getF (pc := 11) (q := 68) hv fL_X2_37 rfl (Nat.le_of_ble_eq_true rfl) rfl (hv.rf (by decide)) dX2_see_11 ?_
    refine go_aload_n (pc := 14) rfl dX2_see_14 ?_
    refine gi_get (pc := 15) (lo := 0) (hi := 500) hv fL_X2_43 rfl (Nat.le_of_ble_eq_true rfl) rfl rfl dX2_see_15 (fun v3 v3l v3u v3w => ?_)
    have v3r : v1 = h.2.1 64 10 := v1w
    have v3q : TI v3 v1.toInt := by rw [v3w.trans v3r.symm]; exact (ti_rfl v1)
    refine go_iload_n (pc := 18) rfl dX2_see_18 ?_
    refine gi_iast (pc := 19) (lo := -2147483648) (hi := 2147483647) (len := 500) hv v3q (ti_rfl a2) rfl (by omega) (by omega) (fun _ => rfl) (ti_ge (ti_rfl a2)) (ti_le2 (ti_rfl a2)) (by decide) dX2_see_19 (fun h4 hv4 hv4e => ?_)
    have fx4 : FX KAm h h4 := FX.pI fx hv4e (by unfold KAm; omega)
    refine go_aload_n (pc := 20) rfl dX2_see_20 ?_
    refine gi_getF (pc := 21) (q := 69) hv4 fL_X2_40 rfl (Nat.le_of_ble_eq_true rfl) rfl (hv4.rf (by decide)) dX2_see_21 ?_
    refine go_aload_n (pc := 24) rfl dX2_see_24 ?_
    refine gi_get (pc := 25) (lo := 0) (hi := 500) hv4 fL_X2_43 rfl (Nat.le_of_ble_eq_true rfl) rfl rfl dX2_see_25 (fun v5 v5l v5u v5w => ?_)
    have v5r : v1 = h4.2.1 64 10 := (show v1 = h4.2.1 64 10 from by rw [hv4e]; exact (g_iI rfl v1w.symm).symm)
    have v5q : TI v5 v1.toInt := by rw [v5w.trans v5r.symm]; exact (ti_rfl v1)
    refine go_iload_n (pc := 28) rfl dX2_see_28 ?_
    refine gi_iast (pc := 29) (lo := -2147483648) (hi := 2147483647) (len := 500) hv4 v5q (ti_rfl a3) rfl (by omega) (by omega) (fun _ => rfl) (ti_ge (ti_rfl a3)) (ti_le2 (ti_rfl a3)) (by decide) dX2_see_29 (fun h6 hv6 hv6e => ?_)
    have fx6 : FX KAm h h6 := FX.pI fx4 hv6e (by unfold KAm; omega)
    refine go_aload_n (pc := 30) rfl dX2_see_30 ?_
    refine go_dup (pc := 31) rfl dX2_see_31 ?_
    refine gi_get (pc := 32) (lo := 0) (hi := 500) hv6 fL_X2_43 rfl (Nat.le_of_ble_eq_true rfl) rfl rfl dX2_see_32 (fun v7 v7l v7u v7w => ?_)
    have v7r : v1 = h6.2.1 64 10 := (show v1 = h6.2.1 64 10 from by rw [hv6e]; exact (g_iI rfl (show v1 = h4.2.1 64 10 from by rw [hv4e]; exact (g_iI rfl v1w.symm).symm).symm).symm)
    have v7q : TI v7 v1.toInt := by rw [v7w.trans v7r.symm]; exact (ti_rfl v1)
    refine go_iconst (pc := 35) (v := 1) (by decide) dX2_see_35 ?_
    refine gf_iadd (pc := 36) v7q (ti_c (v := 1) (a := 1) (by decide)) (by omega) (by omega) dX2_see_36 (fun v8 e9 => ?_)
    refine gi_put (pc := 37) (lo := 0) (hi := 500) hv6 e9 (fP_X2_43 _) rfl (Nat.le_of_ble_eq_true rfl) rfl rfl (by omega) (by omega) rfl rfl (by decide) (by decide) (by decide) (by decide) dX2_see_37 (fun h10 hv10 hv10e => ?_)
    have fx10 : FX KAm h h10 := FX.pI fx6 hv10e (by unfold KAm; omega)
    exact go_lv rfl ((key 14)  h10 hv10 fx10 (by omega))
set_option maxHeartbeats 4000000 in
set_option maxRecDepth 100000 in
theorem s_X2_leave_f (l : Launch) (d : Nat) {P : PP} {h : HP} (hv : Iv P h) (a2 : Int32) (a3 : Int32) (a3l : 0 ≤ a3.toInt) (a3u : a3.toInt ≤ 1) : Mt l yX2_leave cX2_leave 6 none (d + 2) [.ref 64, .int a2, .int a3] h 0 0 (fun r h' => r = none ∧ Iv P h' ∧ (FX KAm h h')) := by
  refine Mt_iv hv (by decide) (Nat.le_of_ble_eq_true rfl) ?_
  show Go l RX2 cX2_leave 6 (g_rm (d + 2) 0 0) "leave" none 117 0 0 (fun _ _ => True) (fun r h' => r = none ∧ Iv P h' ∧ (FX KAm h h')) 0 0 [(0, .ref 64), (1, .int a2), (2, .int a3)] [] h
  have fx : FX KAm h h := FX.rfl
  have key : ∀ n : Nat, (∀ (l1 : Int32) (l2 : Int32) (l3 : Int32) (l4 : Int32) (hx : HP), Iv P hx → 0 ≤ l2.toInt → l2.toInt ≤ 1 → 0 ≤ l3.toInt → l3.toInt ≤ 1 → 0 ≤ l4.toInt → l4.toInt ≤ 31 → FX KAm h hx → (8 * (31 - l4.toInt) + 10 : Int) < n → Go l RX2 cX2_leave 6 (g_rm (d + 2) 0 0) "leave" none 117 0 0 (fun _ _ => True) (fun r h' => r = none ∧ Iv P h' ∧ (FX KAm h h')) 0 5 [(0, .ref 64), (1, .int l1), (2, .int l2), (3, .int l3), (4, .int l4)] [] hx) ∧ (∀ (l1 : Int32) (l2 : Int32) (l4 : Int32) (l5 : Int32) (hx : HP), Iv P hx → 0 ≤ l2.toInt → l2.toInt ≤ 1 → 0 ≤ l4.toInt → l4.toInt ≤ 30 → 0 ≤ l5.toInt → l5.toInt ≤ 39 → FX KAm h hx → (8 * (31 - l4.toInt) + 9 : Int) < n → Go l RX2 cX2_leave 6 (g_rm (d + 2) 0 0) "leave" none 117 0 0 (fun _ _ => True) (fun r h' => r = none ∧ Iv P h' ∧ (FX KAm h h')) 0 68 [(0, .ref 64), (1, .int l1), (2, .int l2), (4, .int l4), (5, .int l5)] [] hx) ∧ (∀ (l1 : Int32) (l2 : Int32) (l4 : Int32) (l5 : Int32) (s0 : Int32) (hx : HP), Iv P hx → 0 ≤ l2.toInt → l2.toInt ≤ 1 → 0 ≤ l4.toInt → l4.toInt ≤ 30 → 0 ≤ l5.toInt → l5.toInt ≤ 39 → 0 ≤ s0.toInt → s0.toInt ≤ 1 → FX KAm h hx → (8 * (31 - l4.toInt) + 8 : Int) < n → Go l RX2 cX2_leave 6 (g_rm (d + 2) 0 0) "leave" none 117 0 0 (fun _ _ => True) (fun r h' => r = none ∧ Iv P h' ∧ (FX KAm h h')) 0 73 [(0, .ref 64), (1, .int l1), (2, .int l2), (4, .int l4), (5, .int l5)] [.int s0] hx) ∧ (∀ (l1 : Int32) (l2 : Int32) (l3 : Int32) (l4 : Int32) (l5 : Int32) (s0 : Int32) (hx : HP), Iv P hx → 0 ≤ l2.toInt → l2.toInt ≤ 1 → 1 ≤ l3.toInt → l3.toInt ≤ 1 → 0 ≤ l4.toInt → l4.toInt ≤ 30 → 0 ≤ l5.toInt → l5.toInt ≤ 39 → -1 ≤ s0.toInt → s0.toInt ≤ 9 → FX KAm h hx → (8 * (31 - l4.toInt) + 7 : Int) < n → Go l RX2 cX2_leave 6 (g_rm (d + 2) 0 0) "leave" none 117 0 0 (fun _ _ => True) (fun r h' => r = none ∧ Iv P h' ∧ (FX KAm h h')) 0 106 [(0, .ref 64), (1, .int l1), (2, .int l2), (3, .int l3), (4, .int l4), (5, .int l5)] [.int s0, .ref 64] hx) ∧ (∀ (l1 : Int32) (l2 : Int32) (l3 : Int32) (l4 : Int32) (s0 : Int32) (hx : HP), Iv P hx → 0 ≤ l2.toInt → l2.toInt ≤ 1 → 1 ≤ l3.toInt → l3.toInt ≤ 1 → 0 ≤ l4.toInt → l4.toInt ≤ 30 → 0 ≤ s0.toInt → s0.toInt ≤ 44 → FX KAm h hx → (8 * (31 - l4.toInt) + 6 : Int) < n → Go l RX2 cX2_leave 6 (g_rm (d + 2) 0 0) "leave" none 117 0 0 (fun _ _ => True) (fun r h' => r = none ∧ Iv P h' ∧ (FX KAm h h')) 0 138 [(0, .ref 64), (1, .int l1), (2, .int l2), (3, .int l3), (4, .int l4)] [.int s0, .ref 64] hx) ∧ (∀ (l1 : Int32) (l2 : Int32) (l3 : Int32) (l4 : Int32) (hx : HP), Iv P hx → 0 ≤ l2.toInt → l2.toInt ≤ 1 → 0 ≤ l3.toInt → l3.toInt ≤ 1 → 0 ≤ l4.toInt → l4.toInt ≤ 30 → FX KAm h hx → (8 * (31 - l4.toInt) + 5 : Int) < n → Go l RX2 cX2_leave 6 (g_rm (d + 2) 0 0) "leave" none 117 0 0 (fun _ _ => True) (fun r h' => r = none ∧ Iv P h' ∧ (FX KAm h h')) 0 141 [(0, .ref 64), (1, .int l1), (2, .int l2), (3, .int l3), (4, .int l4)] [] hx) ∧ (∀ (l1 : Int32) (l2 : Int32) (l3 : Int32) (hx : HP), Iv P hx → 0 ≤ l2.toInt → l2.toInt ≤ 1 → 0 ≤ l3.toInt → l3.toInt ≤ 1 → FX KAm h hx → (3 : Int) < n → Go l RX2 cX2_leave 6 (g_rm (d + 2) 0 0) "leave" none 117 0 0 (fun _ _ => True) (fun r h' => r = none ∧ Iv P h' ∧ (FX KAm h h')) 0 147 [(0, .ref 64), (1, .int l1), (2, .int l2), (3, .int l3)] [] hx) ∧ (∀ (l1 : Int32) (s0 : Int32) (hx : HP), Iv P hx → 0 ≤ s0.toInt → s0.toInt ≤ 1 → FX KAm h hx → (2 : Int) < n → Go l RX2 cX2_leave 6 (g_rm (d + 2) 0 0) "leave" none 117 0 0 (fun _ _ => True) (fun r h' => r = none ∧ Iv P h' ∧ (FX KAm h h')) 0 161 [(0, .ref 64), (1, .int l1)] [.int s0, .ref 64] hx) ∧ (∀  (hx : HP), Iv P hx → FX KAm h hx → (1 : Int) < n → Go l RX2 cX2_leave 6 (g_rm (d + 2) 0 0) "leave" none 117 0 0 (fun _ _ => True) (fun r h' => r = none ∧ Iv P h' ∧ (FX KAm h h')) 0 169 [] [] hx) := by
    intro n
    induction n with
    | zero => exact ⟨(by intros; omega), (by intros; omega), (by intros; omega), (by intros; omega), (by intros; omega), (by intros; omega), (by intros; omega), (by intros; omega), (by intros; omega)⟩
    | succ n ih =>
      refine ⟨?_, ?_, ?_, ?_, ?_, ?_, ?_, ?_, ?_⟩
      ·
        intro l1 l2 l3 l4 hx hvx l2l l2u l3l l3u l4l l4u fxx hm
        refine go_iload (pc := 5) rfl dX2_leave_5 ?_
        refine go_bipush (pc := 7) (v := 31) (by decide) dX2_leave_7 ?_
        refine gf_icmp_ge (pc := 9) (tgt := 147) (ti_rfl l4) (ti_c (v := 31) (a := 31) (by decide)) (by decide) dX2_leave_9 (fun q1 => ?_) (fun q1 => ?_)
        ·
          exact go_lv rfl (ih.2.2.2.2.2.2.1 l1 l2 l3 hx hvx (by omega) (by omega) (by omega) (by omega) fxx (by omega))
        ·
          refine go_aload_n (pc := 12) rfl dX2_leave_12 ?_
          refine gi_get (pc := 13) (lo := 0) (hi := 30) hvx fL_X2_21 rfl (Nat.le_of_ble_eq_true rfl) rfl rfl dX2_leave_13 (fun v2 v2l v2u v2w => ?_)
          refine gf_if_le (pc := 16) (tgt := 147) (ti_rfl v2) (by decide) dX2_leave_16 (fun q3 => ?_) (fun q3 => ?_)
          ·
            exact go_lv rfl (ih.2.2.2.2.2.2.1 l1 l2 l3 hx hvx (by omega) (by omega) (by omega) (by omega) fxx (by omega))
          ·
            refine go_iload_n (pc := 19) rfl dX2_leave_19 ?_
            refine gf_if_ne (pc := 20) (tgt := 147) (ti_rfl l3) (by decide) dX2_leave_20 (fun q4 => ?_) (fun q4 => ?_)
            ·
              exact go_lv rfl (ih.2.2.2.2.2.2.1 l1 l2 l3 hx hvx (by omega) (by omega) (by omega) (by omega) fxx (by omega))
            ·
              refine go_aload_n (pc := 23) rfl dX2_leave_23 ?_
              refine gi_getF (pc := 24) (q := 67) hvx fL_X2_18 rfl (Nat.le_of_ble_eq_true rfl) rfl (hvx.rf (by decide)) dX2_leave_24 ?_
              refine go_aload_n (pc := 27) rfl dX2_leave_27 ?_
              refine gi_get (pc := 28) (lo := 0) (hi := 30) hvx fL_X2_21 rfl (Nat.le_of_ble_eq_true rfl) rfl rfl dX2_leave_28 (fun v5 v5l v5u v5w => ?_)
              have v5r : v2 = hx.2.1 64 3 := v2w
              have v5q : TI v5 v2.toInt := by rw [v5w.trans v5r.symm]; exact (ti_rfl v2)
              refine gi_iald (pc := 31) (lo := 0) (hi := 39) (len := 31) hvx v5q rfl (by omega) (by omega) (fun _ => rfl) dX2_leave_31 (fun v6 v6l v6u v6w => ?_)
              refine go_istore (pc := 32) (Nat.le_of_ble_eq_true rfl) dX2_leave_32 (go_lv (lv2 := [(0, .ref 64), (1, .int l1), (2, .int l2), (3, .int l3), (4, .int l4), (5, .int v6)]) rfl ?_)
              refine go_aload_n (pc := 34) rfl dX2_leave_34 ?_
              refine go_dup (pc := 35) rfl dX2_leave_35 ?_
              refine gi_get (pc := 36) (lo := 0) (hi := 30) hvx fL_X2_21 rfl (Nat.le_of_ble_eq_true rfl) rfl rfl dX2_leave_36 (fun v7 v7l v7u v7w => ?_)
              have v7r : v2 = hx.2.1 64 3 := v2w
              have v7q : TI v7 v2.toInt := by rw [v7w.trans v7r.symm]; exact (ti_rfl v2)
              refine go_iconst (pc := 39) (v := 1) (by decide) dX2_leave_39 ?_
              refine gf_isub (pc := 40) v7q (ti_c (v := 1) (a := 1) (by decide)) (by omega) (by omega) dX2_leave_40 (fun v8 e9 => ?_)
              refine gi_put (pc := 41) (lo := 0) (hi := 30) hvx e9 (fP_X2_21 _) rfl (Nat.le_of_ble_eq_true rfl) rfl rfl (by omega) (by omega) rfl rfl (by decide) (by decide) (by decide) (by decide) dX2_leave_41 (fun h10 hv10 hv10e => ?_)
              have fx10 : FX KAm h h10 := FX.pI fxx hv10e (by unfold KAm; omega)
              refine go_aload_n (pc := 44) rfl dX2_leave_44 ?_
              refine go_iload (pc := 45) rfl dX2_leave_45 ?_
              refine go_iload_n (pc := 47) rfl dX2_leave_47 ?_
              refine go_invV (pc := 48) (sl := 0) (s_X2_see_f l (d + 0) hv10 v6 l1) mL_X2_102 iM_X2_see sM_X2_see (hv10.sh rfl) rfl rfl rfl (Nat.le_of_ble_eq_true rfl) (show d + 0 + 1 + 1 ≤ d + 2 by omega) (show 8 + (3 + 11) + 40 * (d + 0 + 1) ≤ 40 * (d + 2) by omega) (g_c0 hv10.ln) (Nat.le_of_ble_eq_true rfl) dX2_leave_48 ?_
              intro r h11 hq _
              obtain ⟨rfl, hv11, f12⟩ := hq
              have fx11 : FX KAm h h11 := FX.tr fx10 f12
              refine go_iload_n (pc := 51) rfl dX2_leave_51 ?_
              refine gf_if_eq (pc := 52) (tgt := 68) (ti_rfl l2) (by decide) dX2_leave_52 (fun q13 => ?_) (fun q13 => ?_)
              ·
                exact go_lv rfl (ih.2.1 l1 l2 l4 v6 h11 hv11 (by omega) (by omega) (by omega) (by omega) (by omega) (by omega) fx11 (by omega))
              ·
                refine go_aload_n (pc := 55) rfl dX2_leave_55 ?_
                refine gi_getC (pc := 56) hv11 fL_X2_50 rfl (Nat.le_of_ble_eq_true rfl) rfl (by decide) dX2_leave_56 (fun c14 hc14 fc14 => ?_)
                refine gi_getF (pc := 59) (q := c14 + 14) hv11 fL_X2_132 (by rcases hc14 with rfl | rfl <;> rfl) (Nat.le_of_ble_eq_true rfl) rfl (by rcases hc14 with rfl | rfl <;> exact hv11.rf (by decide)) dX2_leave_59 ?_
                refine go_iload (pc := 62) rfl dX2_leave_62 ?_
                refine gi_iald (pc := 64) (lo := -1) (hi := 5) (len := 40) hv11 (ti_rfl v6) (by rcases hc14 with rfl | rfl <;> rfl) (by omega) (by omega) (fun _ => by rcases hc14 with rfl | rfl <;> rfl) dX2_leave_64 (fun v15 v15l v15u v15w => ?_)
                refine gf_if_lt (pc := 65) (tgt := 72) (ti_rfl v15) (by decide) dX2_leave_65 (fun q16 => ?_) (fun q16 => ?_)
                ·
                  refine go_iconst (pc := 72) (v := 0) (by decide) dX2_leave_72 ?_
                  have z17 : (0 : Int32).toInt = 0 := (ti_c (v := 0) (a := 0) (by decide))
                  exact go_lv rfl (ih.2.2.1 l1 l2 l4 v6 0 h11 hv11 (by omega) (by omega) (by omega) (by omega) (by omega) (by omega) (by omega) (by omega) fx11 (by omega))
                ·
                  exact go_lv rfl (ih.2.1 l1 l2 l4 v6 h11 hv11 (by omega) (by omega) (by omega) (by omega) (by omega) (by omega) fx11 (by omega))
      ·
        intro l1 l2 l4 l5 hx hvx l2l l2u l4l l4u l5l l5u fxx hm
        refine go_iconst (pc := 68) (v := 1) (by decide) dX2_leave_68 ?_
        refine go_goto (pc := 69) (tgt := 73) (by decide) dX2_leave_69 ?_
        have z18 : (1 : Int32).toInt = 1 := (ti_c (v := 1) (a := 1) (by decide))
        exact go_lv rfl (ih.2.2.1 l1 l2 l4 l5 1 hx hvx (by omega) (by omega) (by omega) (by omega) (by omega) (by omega) (by omega) (by omega) fxx (by omega))
      ·
        intro l1 l2 l4 l5 s0 hx hvx l2l l2u l4l l4u l5l l5u s0l s0u fxx hm
        refine go_istore_n (pc := 73) (Nat.le_of_ble_eq_true rfl) dX2_leave_73 (go_lv (lv2 := [(0, .ref 64), (1, .int l1), (2, .int l2), (3, .int s0), (4, .int l4), (5, .int l5)]) rfl ?_)
        refine go_iload_n (pc := 74) rfl dX2_leave_74 ?_
        refine gf_if_eq (pc := 75) (tgt := 141) (ti_rfl s0) (by decide) dX2_leave_75 (fun q19 => ?_) (fun q19 => ?_)
        ·
          exact go_lv rfl (ih.2.2.2.2.2.1 l1 l2 s0 l4 hx hvx (by omega) (by omega) (by omega) (by omega) (by omega) (by omega) fxx (by omega))
        ·
          refine go_aload_n (pc := 78) rfl dX2_leave_78 ?_
          refine go_iload_n (pc := 79) rfl dX2_leave_79 ?_
          refine gf_if_eq (pc := 80) (tgt := 96) (ti_rfl l2) (by decide) dX2_leave_80 (fun q20 => ?_) (fun q20 => ?_)
          ·
            refine go_aload_n (pc := 96) rfl dX2_leave_96 ?_
            refine gi_getC (pc := 97) hvx fL_X2_50 rfl (Nat.le_of_ble_eq_true rfl) rfl (by decide) dX2_leave_97 (fun c21 hc21 fc21 => ?_)
            refine gi_getF (pc := 100) (q := c21 + 6) hvx fL_X2_95 (by rcases hc21 with rfl | rfl <;> rfl) (Nat.le_of_ble_eq_true rfl) rfl (by rcases hc21 with rfl | rfl <;> exact hvx.rf (by decide)) dX2_leave_100 ?_
            refine go_iload (pc := 103) rfl dX2_leave_103 ?_
            refine gi_iald (pc := 105) (lo := -1) (hi := 9) (len := 40) hvx (ti_rfl l5) (by rcases hc21 with rfl | rfl <;> rfl) (by omega) (by omega) (fun _ => by rcases hc21 with rfl | rfl <;> rfl) dX2_leave_105 (fun v22 v22l v22u v22w => ?_)
            exact go_lv rfl (ih.2.2.2.1 l1 l2 s0 l4 l5 v22 hx hvx (by omega) (by omega) (by omega) (by omega) (by omega) (by omega) (by omega) (by omega) (by omega) (by omega) fxx (by omega))
          ·
            refine go_aload_n (pc := 83) rfl dX2_leave_83 ?_
            refine gi_getC (pc := 84) hvx fL_X2_50 rfl (Nat.le_of_ble_eq_true rfl) rfl (by decide) dX2_leave_84 (fun c23 hc23 fc23 => ?_)
            refine gi_getF (pc := 87) (q := c23 + 14) hvx fL_X2_132 (by rcases hc23 with rfl | rfl <;> rfl) (Nat.le_of_ble_eq_true rfl) rfl (by rcases hc23 with rfl | rfl <;> exact hvx.rf (by decide)) dX2_leave_87 ?_
            refine go_iload (pc := 90) rfl dX2_leave_90 ?_
            refine gi_iald (pc := 92) (lo := -1) (hi := 5) (len := 40) hvx (ti_rfl l5) (by rcases hc23 with rfl | rfl <;> rfl) (by omega) (by omega) (fun _ => by rcases hc23 with rfl | rfl <;> rfl) dX2_leave_92 (fun v24 v24l v24u v24w => ?_)
            refine go_goto (pc := 93) (tgt := 106) (by decide) dX2_leave_93 ?_
            exact go_lv rfl (ih.2.2.2.1 l1 l2 s0 l4 l5 v24 hx hvx (by omega) (by omega) (by omega) (by omega) (by omega) (by omega) (by omega) (by omega) (by omega) (by omega) fxx (by omega))
      ·
        intro l1 l2 l3 l4 l5 s0 hx hvx l2l l2u l3l l3u l4l l4u l5l l5u s0l s0u fxx hm
        refine go_iload_n (pc := 106) rfl dX2_leave_106 ?_
        refine go_invV (pc := 107) (sl := 0) (s_X2_store_f l (d + 0) hvx s0 (by rw [show (s0 : Int32).toInt = s0.toInt from (ti_rfl s0)]; omega) (by rw [show (s0 : Int32).toInt = s0.toInt from (ti_rfl s0)]; omega) l1) mL_X2_98 iM_X2_store sM_X2_store (hvx.sh rfl) rfl rfl rfl (Nat.le_of_ble_eq_true rfl) (show d + 0 + 1 + 1 ≤ d + 2 by omega) (show 8 + (3 + 11) + 40 * (d + 0 + 1) ≤ 40 * (d + 2) by omega) (g_c0 hvx.ln) (Nat.le_of_ble_eq_true rfl) dX2_leave_107 ?_
        intro r h25 hq _
        obtain ⟨rfl, hv25, f26⟩ := hq
        have fx25 : FX KAm h h25 := FX.tr fxx f26
        refine go_aload_n (pc := 110) rfl dX2_leave_110 ?_
        refine go_iload_n (pc := 111) rfl dX2_leave_111 ?_
        refine gf_if_eq (pc := 112) (tgt := 128) (ti_rfl l2) (by decide) dX2_leave_112 (fun q27 => ?_) (fun q27 => ?_)
        ·
          refine go_aload_n (pc := 128) rfl dX2_leave_128 ?_
          refine gi_getC (pc := 129) hv25 fL_X2_50 rfl (Nat.le_of_ble_eq_true rfl) rfl (by decide) dX2_leave_129 (fun c28 hc28 fc28 => ?_)
          refine gi_getF (pc := 132) (q := c28 + 12) hv25 fL_X2_105 (by rcases hc28 with rfl | rfl <;> rfl) (Nat.le_of_ble_eq_true rfl) rfl (by rcases hc28 with rfl | rfl <;> exact hv25.rf (by decide)) dX2_leave_132 ?_
          refine go_iload (pc := 135) rfl dX2_leave_135 ?_
          refine gi_iald (pc := 137) (lo := 0) (hi := 44) (len := 40) hv25 (ti_rfl l5) (by rcases hc28 with rfl | rfl <;> rfl) (by omega) (by omega) (fun _ => by rcases hc28 with rfl | rfl <;> rfl) dX2_leave_137 (fun v29 v29l v29u v29w => ?_)
          exact go_lv rfl (ih.2.2.2.2.1 l1 l2 l3 l4 v29 h25 hv25 (by omega) (by omega) (by omega) (by omega) (by omega) (by omega) (by omega) (by omega) fx25 (by omega))
        ·
          refine go_aload_n (pc := 115) rfl dX2_leave_115 ?_
          refine gi_getC (pc := 116) hv25 fL_X2_50 rfl (Nat.le_of_ble_eq_true rfl) rfl (by decide) dX2_leave_116 (fun c30 hc30 fc30 => ?_)
          refine gi_getF (pc := 119) (q := c30 + 13) hv25 fL_X2_123 (by rcases hc30 with rfl | rfl <;> rfl) (Nat.le_of_ble_eq_true rfl) rfl (by rcases hc30 with rfl | rfl <;> exact hv25.rf (by decide)) dX2_leave_119 ?_
          refine go_iload (pc := 122) rfl dX2_leave_122 ?_
          refine gi_iald (pc := 124) (lo := 0) (hi := 44) (len := 40) hv25 (ti_rfl l5) (by rcases hc30 with rfl | rfl <;> rfl) (by omega) (by omega) (fun _ => by rcases hc30 with rfl | rfl <;> rfl) dX2_leave_124 (fun v31 v31l v31u v31w => ?_)
          refine go_goto (pc := 125) (tgt := 138) (by decide) dX2_leave_125 ?_
          exact go_lv rfl (ih.2.2.2.2.1 l1 l2 l3 l4 v31 h25 hv25 (by omega) (by omega) (by omega) (by omega) (by omega) (by omega) (by omega) (by omega) fx25 (by omega))
      ·
        intro l1 l2 l3 l4 s0 hx hvx l2l l2u l3l l3u l4l l4u s0l s0u fxx hm
        refine gi_put (pc := 138) (lo := 0) (hi := 44) hvx (ti_rfl s0) (fP_X2_25 _) rfl (Nat.le_of_ble_eq_true rfl) rfl rfl (by omega) (by omega) rfl rfl (by decide) (by decide) (by decide) (by decide) dX2_leave_138 (fun h32 hv32 hv32e => ?_)
        have fx32 : FX KAm h h32 := FX.pI fxx hv32e (by unfold KAm; omega)
        exact go_lv rfl (ih.2.2.2.2.2.1 l1 l2 l3 l4 h32 hv32 (by omega) (by omega) (by omega) (by omega) (by omega) (by omega) fx32 (by omega))
      ·
        intro l1 l2 l3 l4 hx hvx l2l l2u l3l l3u l4l l4u fxx hm
        refine gf_iinc (pc := 141) (Nat.le_of_ble_eq_true rfl) rfl (ti_rfl l4) (ti_c (by decide)) (by omega) (by omega) dX2_leave_141 (fun v33 e34 => ?_)
        refine go_lv (lv2 := [(0, .ref 64), (1, .int l1), (2, .int l2), (3, .int l3), (4, .int v33)]) rfl ?_
        refine go_goto (pc := 144) (tgt := 5) (by decide) dX2_leave_144 ?_
        have z35 : (v33 : Int32).toInt = (l4.toInt + 1) := e34
        exact go_lv rfl (ih.1 l1 l2 l3 v33 hx hvx (by omega) (by omega) (by omega) (by omega) (by omega) (by omega) fxx (by omega))
      ·
        intro l1 l2 l3 hx hvx l2l l2u l3l l3u fxx hm
        refine go_iload_n (pc := 147) rfl dX2_leave_147 ?_
        refine gf_if_ne (pc := 148) (tgt := 169) (ti_rfl l3) (by decide) dX2_leave_148 (fun q36 => ?_) (fun q36 => ?_)
        ·
          exact go_lv rfl (ih.2.2.2.2.2.2.2.2  hx hvx fxx (by omega))
        ·
          refine go_aload_n (pc := 151) rfl dX2_leave_151 ?_
          refine go_iload_n (pc := 152) rfl dX2_leave_152 ?_
          refine gf_if_eq (pc := 153) (tgt := 160) (ti_rfl l2) (by decide) dX2_leave_153 (fun q37 => ?_) (fun q37 => ?_)
          ·
            refine go_iconst (pc := 160) (v := 0) (by decide) dX2_leave_160 ?_
            have z38 : (0 : Int32).toInt = 0 := (ti_c (v := 0) (a := 0) (by decide))
            exact go_lv rfl (ih.2.2.2.2.2.2.2.1 l1 0 hx hvx (by omega) (by omega) fxx (by omega))
          ·
            refine go_iconst (pc := 156) (v := 1) (by decide) dX2_leave_156 ?_
            refine go_goto (pc := 157) (tgt := 161) (by decide) dX2_leave_157 ?_
            have z39 : (1 : Int32).toInt = 1 := (ti_c (v := 1) (a := 1) (by decide))
            exact go_lv rfl (ih.2.2.2.2.2.2.2.1 l1 1 hx hvx (by omega) (by omega) fxx (by omega))
      ·
        intro l1 s0 hx hvx s0l s0u fxx hm
        refine gi_put (pc := 161) (lo := -1) (hi := 3) hvx (ti_rfl s0) (fP_X2_31 _) rfl (Nat.le_of_ble_eq_true rfl) rfl rfl (by omega) (by omega) rfl rfl (by decide) (by decide) (by decide) (by decide) dX2_leave_161 (fun h40 hv40 hv40e => ?_)
        have fx40 : FX KAm h h40 := FX.pI fxx hv40e (by unfold KAm; omega)
        refine go_aload_n (pc := 164) rfl dX2_leave_164 ?_
        refine go_iload_n (pc := 165) rfl dX2_leave_165 ?_
        refine gi_put (pc := 166) (lo := -2147483648) (hi := 2147483647) hv40 (ti_rfl l1) (fP_X2_34 _) rfl (Nat.le_of_ble_eq_true rfl) rfl rfl (ti_ge (ti_rfl l1)) (ti_le2 (ti_rfl l1)) rfl rfl (by decide) (by decide) (by decide) (by decide) dX2_leave_166 (fun h41 hv41 hv41e => ?_)
        have fx41 : FX KAm h h41 := FX.pI fx40 hv41e (by unfold KAm; omega)
        exact go_lv rfl (ih.2.2.2.2.2.2.2.2  h41 hv41 fx41 (by omega))
      ·
        intro hx hvx fxx hm
        exact gi_vret (pc := 169) ⟨rfl, hvx, fxx⟩ hvx dX2_leave_169
  refine go_iconst (pc := 0) (v := 0) (by decide) dX2_leave_0 ?_
  refine go_istore_n (pc := 1) (Nat.le_of_ble_eq_true rfl) dX2_leave_1 (go_lv (lv2 := [(0, .ref 64), (1, .int a2), (2, .int a3), (3, .int 0)]) rfl ?_)
  refine go_iconst (pc := 2) (v := 0) (by decide) dX2_leave_2 ?_
  refine go_istore (pc := 3) (Nat.le_of_ble_eq_true rfl) dX2_leave_3 (go_lv (lv2 := [(0, .ref 64), (1, .int a2), (2, .int a3), (3, .int 0), (4, .int 0)]) rfl ?_)
  have z42 : (0 : Int32).toInt = 0 := (ti_c (v := 0) (a := 0) (by decide))
  have z43 : (0 : Int32).toInt = 0 := (ti_c (v := 0) (a := 0) (by decide))
  exact go_lv rfl ((key 280).1 a2 a3 0 0 h hv (by omega) (by omega) (by omega) (by omega) (by omega) (by omega) fx (by omega))
set_option maxHeartbeats 4000000 in
set_option maxRecDepth 100000 in
theorem s_X2_raise_f (l : Launch) (d : Nat) {P : PP} {h : HP} (hv : Iv P h) (a2 : Int32) (a2l : 0 ≤ a2.toInt) (a2u : a2.toInt ≤ 39) (a3 : Int32) : Mt l yX2_raise cX2_raise 3 none (d + 3) [.ref 64, .int a2, .int a3] h 0 0 (fun r h' => r = none ∧ Iv P h' ∧ (FX KAm h h')) := by
  refine Mt_iv hv (by decide) (Nat.le_of_ble_eq_true rfl) ?_
  show Go l RX2 cX2_raise 3 (g_rm (d + 3) 0 0) "raise" none 117 0 0 (fun _ _ => True) (fun r h' => r = none ∧ Iv P h' ∧ (FX KAm h h')) 0 0 [(0, .ref 64), (1, .int a2), (2, .int a3)] [] h
  have fx : FX KAm h h := FX.rfl
  have key : ∀ n : Nat, (∀  (hx : HP), Iv P hx → FX KAm h hx → (1 : Int) < n → Go l RX2 cX2_raise 3 (g_rm (d + 3) 0 0) "raise" none 117 0 0 (fun _ _ => True) (fun r h' => r = none ∧ Iv P h' ∧ (FX KAm h h')) 0 48 [] [] hx) := by
    intro n
    induction n with
    | zero => exact (by intros; omega)
    | succ n ih =>
      refine ?_
      ·
        intro hx hvx fxx hm
        exact gi_vret (pc := 48) ⟨rfl, hvx, fxx⟩ hvx dX2_raise_48
  refine go_aload_n (pc := 0) rfl dX2_raise_0 ?_
  refine gi_getC (pc := 1) hv fL_X2_50 rfl (Nat.le_of_ble_eq_true rfl) rfl (by decide) dX2_raise_1 (fun c1 hc1 fc1 => ?_)
  refine gi_getF (pc := 4) (q := c1 + 14) hv fL_X2_132 (by rcases hc1 with rfl | rfl <;> rfl) (Nat.le_of_ble_eq_true rfl) rfl (by rcases hc1 with rfl | rfl <;> exact hv.rf (by decide)) dX2_raise_4 ?_
  refine go_iload_n (pc := 7) rfl dX2_raise_7 ?_
  refine gi_iald (pc := 8) (lo := -1) (hi := 5) (len := 40) hv (ti_rfl a2) (by rcases hc1 with rfl | rfl <;> rfl) (by omega) (by omega) (fun _ => by rcases hc1 with rfl | rfl <;> rfl) dX2_raise_8 (fun v2 v2l v2u v2w => ?_)
  refine gf_if_lt (pc := 9) (tgt := 42) (ti_rfl v2) (by decide) dX2_raise_9 (fun q3 => ?_) (fun q3 => ?_)
  ·
    refine go_aload_n (pc := 42) rfl dX2_raise_42 ?_
    refine go_iload_n (pc := 43) rfl dX2_raise_43 ?_
    refine go_iconst (pc := 44) (v := 1) (by decide) dX2_raise_44 ?_
    refine go_invV (pc := 45) (sl := 0) (s_X2_leave_f l (d + 0) hv a3 1 (by rw [show (1 : Int32).toInt = 1 from (ti_c (v := 1) (a := 1) (by decide))]; omega) (by rw [show (1 : Int32).toInt = 1 from (ti_c (v := 1) (a := 1) (by decide))]; omega)) mL_X2_73 iM_X2_leave sM_X2_leave (hv.sh rfl) rfl rfl rfl (Nat.le_of_ble_eq_true rfl) (show d + 0 + 2 + 1 ≤ d + 3 by omega) (show 8 + (6 + 11) + 40 * (d + 0 + 2) ≤ 40 * (d + 3) by omega) (g_c0 hv.ln) (Nat.le_of_ble_eq_true rfl) dX2_raise_45 ?_
    intro r h4 hq _
    obtain ⟨rfl, hv4, f5⟩ := hq
    try rw [show (1 : Int32).toInt = 1 from (ti_c (v := 1) (a := 1) (by decide))] at f5
    have fx4 : FX KAm h h4 := FX.tr fx f5
    exact go_lv rfl ((key 14)  h4 hv4 fx4 (by omega))
  ·
    refine go_aload_n (pc := 12) rfl dX2_raise_12 ?_
    refine go_aload_n (pc := 13) rfl dX2_raise_13 ?_
    refine gi_getC (pc := 14) hv fL_X2_50 rfl (Nat.le_of_ble_eq_true rfl) rfl (by decide) dX2_raise_14 (fun c6 hc6 fc6 => ?_)
    refine gi_getF (pc := 17) (q := c6 + 14) hv fL_X2_132 (by rcases hc6 with rfl | rfl <;> rfl) (Nat.le_of_ble_eq_true rfl) rfl (by rcases hc6 with rfl | rfl <;> exact hv.rf (by decide)) dX2_raise_17 ?_
    refine go_iload_n (pc := 20) rfl dX2_raise_20 ?_
    refine gi_iald (pc := 21) (lo := -1) (hi := 5) (len := 40) hv (ti_rfl a2) (by rcases hc6 with rfl | rfl <;> rfl) (by omega) (by omega) (fun _ => by rcases hc6 with rfl | rfl <;> rfl) dX2_raise_21 (fun v7 v7l v7u v7w => ?_)
    refine go_iload_n (pc := 22) rfl dX2_raise_22 ?_
    refine go_invV (pc := 23) (sl := 0) (s_X2_store_f l (d + 1) hv v7 (by rw [show (v7 : Int32).toInt = v7.toInt from (ti_rfl v7)]; omega) (by rw [show (v7 : Int32).toInt = v7.toInt from (ti_rfl v7)]; omega) a3) mL_X2_98 iM_X2_store sM_X2_store (hv.sh rfl) rfl rfl rfl (Nat.le_of_ble_eq_true rfl) (show d + 1 + 1 + 1 ≤ d + 3 by omega) (show 8 + (3 + 11) + 40 * (d + 1 + 1) ≤ 40 * (d + 3) by omega) (g_c0 hv.ln) (Nat.le_of_ble_eq_true rfl) dX2_raise_23 ?_
    intro r h8 hq _
    obtain ⟨rfl, hv8, f9⟩ := hq
    have fx8 : FX KAm h h8 := FX.tr fx f9
    refine go_aload_n (pc := 26) rfl dX2_raise_26 ?_
    refine go_aload_n (pc := 27) rfl dX2_raise_27 ?_
    refine gi_getC (pc := 28) hv8 fL_X2_50 rfl (Nat.le_of_ble_eq_true rfl) rfl (by decide) dX2_raise_28 (fun c10 hc10 fc10 => ?_)
    refine gi_getF (pc := 31) (q := c10 + 13) hv8 fL_X2_123 (by rcases hc10 with rfl | rfl <;> rfl) (Nat.le_of_ble_eq_true rfl) rfl (by rcases hc10 with rfl | rfl <;> exact hv8.rf (by decide)) dX2_raise_31 ?_
    refine go_iload_n (pc := 34) rfl dX2_raise_34 ?_
    refine gi_iald (pc := 35) (lo := 0) (hi := 44) (len := 40) hv8 (ti_rfl a2) (by rcases hc10 with rfl | rfl <;> rfl) (by omega) (by omega) (fun _ => by rcases hc10 with rfl | rfl <;> rfl) dX2_raise_35 (fun v11 v11l v11u v11w => ?_)
    refine gi_put (pc := 36) (lo := 0) (hi := 44) hv8 (ti_rfl v11) (fP_X2_25 _) rfl (Nat.le_of_ble_eq_true rfl) rfl rfl (by omega) (by omega) rfl rfl (by decide) (by decide) (by decide) (by decide) dX2_raise_36 (fun h12 hv12 hv12e => ?_)
    have fx12 : FX KAm h h12 := FX.pI fx8 hv12e (by unfold KAm; omega)
    refine go_goto (pc := 39) (tgt := 48) (by decide) dX2_raise_39 ?_
    exact go_lv rfl ((key 14)  h12 hv12 fx12 (by omega))
set_option maxHeartbeats 4000000 in
set_option maxRecDepth 100000 in
theorem s_X2_open_f (l : Launch) (d : Nat) {P : PP} {h : HP} (hv : Iv P h) (a2 : Int32) (a2l : 0 ≤ a2.toInt) (a2u : a2.toInt ≤ 39) (hp : ∀ c, h.2.2.2 64 11 = .ref c → (h.2.1 (c + 2) a2.toInt.toNat).toInt = 1) : Mt l yX2_open cX2_open 4 none (d + 2) [.ref 64, .int a2] h 0 0 (fun r h' => r = none ∧ Iv P h' ∧ (FX KAm h h')) := by
  refine Mt_iv hv (by decide) (Nat.le_of_ble_eq_true rfl) ?_
  show Go l RX2 cX2_open 4 (g_rm (d + 2) 0 0) "open" none 117 0 0 (fun _ _ => True) (fun r h' => r = none ∧ Iv P h' ∧ (FX KAm h h')) 0 0 [(0, .ref 64), (1, .int a2)] [] h
  have fx : FX KAm h h := FX.rfl
  refine go_aload_n (pc := 0) rfl dX2_open_0 ?_
  refine gi_get (pc := 1) (lo := 0) (hi := 30) hv fL_X2_21 rfl (Nat.le_of_ble_eq_true rfl) rfl rfl dX2_open_1 (fun v1 v1l v1u v1w => ?_)
  refine go_iconst (pc := 4) (v := 1) (by decide) dX2_open_4 ?_
  refine gf_iadd (pc := 5) (ti_rfl v1) (ti_c (v := 1) (a := 1) (by decide)) (by omega) (by omega) dX2_open_5 (fun v2 e3 => ?_)
  refine go_bipush (pc := 6) (v := 31) (by decide) dX2_open_6 ?_
  refine gf_icmp_lt (pc := 8) (tgt := 17) e3 (ti_c (v := 31) (a := 31) (by decide)) (by decide) dX2_open_8 (fun q4 => ?_) (fun q4 => ?_)
  ·
    refine go_aload_n (pc := 17) rfl dX2_open_17 ?_
    refine go_aload_n (pc := 18) rfl dX2_open_18 ?_
    refine gi_getC (pc := 19) hv fL_X2_50 rfl (Nat.le_of_ble_eq_true rfl) rfl (by decide) dX2_open_19 (fun c5 hc5 fc5 => ?_)
    refine gi_getF (pc := 22) (q := c5 + 9) hv fL_X2_111 (by rcases hc5 with rfl | rfl <;> rfl) (Nat.le_of_ble_eq_true rfl) rfl (by rcases hc5 with rfl | rfl <;> exact hv.rf (by decide)) dX2_open_22 ?_
    refine go_iload_n (pc := 25) rfl dX2_open_25 ?_
    refine gi_iald (pc := 26) (lo := -2147483648) (hi := 2147483647) (len := 40) hv (ti_rfl a2) (by rcases hc5 with rfl | rfl <;> rfl) (by omega) (by omega) (fun _ => by rcases hc5 with rfl | rfl <;> rfl) dX2_open_26 (fun v6 v6l v6u v6w => ?_)
    refine go_invV (pc := 27) (sl := 0) (s_X2_load l (d + 0) hv v6) mL_X2_114 iM_X2_load sM_X2_load (hv.sh rfl) rfl rfl rfl (Nat.le_of_ble_eq_true rfl) (show d + 0 + 1 + 1 ≤ d + 2 by omega) (show 8 + (2 + 11) + 40 * (d + 0 + 1) ≤ 40 * (d + 2) by omega) (g_c0 hv.ln) (Nat.le_of_ble_eq_true rfl) dX2_open_27 ?_
    intro r h7 hq _
    obtain ⟨v8, rfl, v8l, v8u, rfl⟩ := hq
    refine go_istore_n (pc := 30) (Nat.le_of_ble_eq_true rfl) dX2_open_30 (go_lv (lv2 := [(0, .ref 64), (1, .int a2), (2, .int v8)]) rfl ?_)
    refine go_aload_n (pc := 31) rfl dX2_open_31 ?_
    refine go_aload_n (pc := 32) rfl dX2_open_32 ?_
    refine gi_getC (pc := 33) hv fL_X2_50 rfl (Nat.le_of_ble_eq_true rfl) rfl (by decide) dX2_open_33 (fun c9 hc9 fc9 => ?_)
    refine gi_getF (pc := 36) (q := c9 + 10) hv fL_X2_120 (by rcases hc9 with rfl | rfl <;> rfl) (Nat.le_of_ble_eq_true rfl) rfl (by rcases hc9 with rfl | rfl <;> exact hv.rf (by decide)) dX2_open_36 ?_
    refine go_iload_n (pc := 39) rfl dX2_open_39 ?_
    refine gi_iald (pc := 40) (lo := -2147483648) (hi := 2147483647) (len := 40) hv (ti_rfl a2) (by rcases hc9 with rfl | rfl <;> rfl) (by omega) (by omega) (fun _ => by rcases hc9 with rfl | rfl <;> rfl) dX2_open_40 (fun v10 v10l v10u v10w => ?_)
    refine go_invV (pc := 41) (sl := 0) (s_X2_load l (d + 0) hv v10) mL_X2_114 iM_X2_load sM_X2_load (hv.sh rfl) rfl rfl rfl (Nat.le_of_ble_eq_true rfl) (show d + 0 + 1 + 1 ≤ d + 2 by omega) (show 8 + (2 + 11) + 40 * (d + 0 + 1) ≤ 40 * (d + 2) by omega) (g_c0 hv.ln) (Nat.le_of_ble_eq_true rfl) dX2_open_41 ?_
    intro r h11 hq _
    obtain ⟨v12, rfl, v12l, v12u, rfl⟩ := hq
    refine go_istore_n (pc := 44) (Nat.le_of_ble_eq_true rfl) dX2_open_44 (go_lv (lv2 := [(0, .ref 64), (1, .int a2), (2, .int v8), (3, .int v12)]) rfl ?_)
    refine go_aload_n (pc := 45) rfl dX2_open_45 ?_
    refine go_dup (pc := 46) rfl dX2_open_46 ?_
    refine gi_get (pc := 47) (lo := 0) (hi := 30) hv fL_X2_21 rfl (Nat.le_of_ble_eq_true rfl) rfl rfl dX2_open_47 (fun v13 v13l v13u v13w => ?_)
    have v13r : v1 = h.2.1 64 3 := v1w
    have v13q : TI v13 v1.toInt := by rw [v13w.trans v13r.symm]; exact (ti_rfl v1)
    refine go_iconst (pc := 50) (v := 1) (by decide) dX2_open_50 ?_
    refine gf_iadd (pc := 51) v13q (ti_c (v := 1) (a := 1) (by decide)) (by omega) (by omega) dX2_open_51 (fun v14 e15 => ?_)
    refine gi_put (pc := 52) (lo := 0) (hi := 30) hv e15 (fP_X2_21 _) rfl (Nat.le_of_ble_eq_true rfl) rfl rfl (by omega) (by omega) rfl rfl (by decide) (by decide) (by decide) (by decide) dX2_open_52 (fun h16 hv16 hv16e => ?_)
    have fx16 : FX KAm h h16 := FX.pI fx hv16e (by unfold KAm; omega)
    refine go_aload_n (pc := 55) rfl dX2_open_55 ?_
    refine gi_getF (pc := 56) (q := 67) hv16 fL_X2_18 rfl (Nat.le_of_ble_eq_true rfl) rfl (hv16.rf (by decide)) dX2_open_56 ?_
    refine go_aload_n (pc := 59) rfl dX2_open_59 ?_
    refine gi_get (pc := 60) (lo := 0) (hi := 30) hv16 fL_X2_21 rfl (Nat.le_of_ble_eq_true rfl) rfl rfl dX2_open_60 (fun v17 v17l v17u v17w => ?_)
    have v17r : v14 = h16.2.1 64 3 := (show v14 = h16.2.1 64 3 from by rw [hv16e]; exact g_iS.symm)
    have v17q : TI v17 ((v1.toInt + 1)) := by rw [v17w.trans v17r.symm]; exact e15
    refine go_iload_n (pc := 63) rfl dX2_open_63 ?_
    refine gi_iast (pc := 64) (lo := 0) (hi := 39) (len := 31) hv16 v17q (ti_rfl a2) rfl (by omega) (by omega) (fun _ => rfl) (by omega) (by omega) (by decide) dX2_open_64 (fun h18 hv18 hv18e => ?_)
    have fx18 : FX KAm h h18 := FX.pI fx16 hv18e (by unfold KAm; omega)
    refine go_aload_n (pc := 65) rfl dX2_open_65 ?_
    refine go_aload_n (pc := 66) rfl dX2_open_66 ?_
    refine gi_getC (pc := 67) hv18 fL_X2_50 rfl (Nat.le_of_ble_eq_true rfl) rfl (by decide) dX2_open_67 (fun c19 hc19 fc19 => ?_)
    refine gi_getF (pc := 70) (q := c19 + 7) hv18 fL_X2_129 (by rcases hc19 with rfl | rfl <;> rfl) (Nat.le_of_ble_eq_true rfl) rfl (by rcases hc19 with rfl | rfl <;> exact hv18.rf (by decide)) dX2_open_70 ?_
    refine go_iload_n (pc := 73) rfl dX2_open_73 ?_
    refine gi_iald (pc := 74) (lo := -2) (hi := 4) (len := 40) hv18 (ti_rfl a2) (by rcases hc19 with rfl | rfl <;> rfl) (by omega) (by omega) (fun _ => by rcases hc19 with rfl | rfl <;> rfl) dX2_open_74 (fun v20 v20l v20u v20w => ?_)
    refine go_iload_n (pc := 75) rfl dX2_open_75 ?_
    refine go_iload_n (pc := 76) rfl dX2_open_76 ?_
    have kk : 0 ≤ v20.toInt := by
      rw [v20w]
      refine hv18.2.2.2.2.2.1 c19 hc19 _ ?_
      have e1 : (h18.2.1 (c19 + 2) a2.toInt.toNat) = h.2.1 (c19 + 2) a2.toInt.toNat := by rw [hv18e, hv16e]; rcases hc19 with rfl | rfl <;> rfl
      rw [e1]
      exact hp c19 (by rw [← fc19, hv18e, hv16e]; rfl)
    refine go_invV (pc := 77) (sl := 0) (s_X2_enter_f l (d + 0) hv18 v20 (by rw [show (v20 : Int32).toInt = v20.toInt from (ti_rfl v20)]; omega) (by rw [show (v20 : Int32).toInt = v20.toInt from (ti_rfl v20)]; omega) v8 v12) mL_X2_60 iM_X2_enter sM_X2_enter (hv18.sh rfl) rfl rfl rfl (Nat.le_of_ble_eq_true rfl) (show d + 0 + 1 + 1 ≤ d + 2 by omega) (show 8 + (6 + 11) + 40 * (d + 0 + 1) ≤ 40 * (d + 2) by omega) (g_c0 hv18.ln) (Nat.le_of_ble_eq_true rfl) dX2_open_77 ?_
    intro r h21 hq _
    obtain ⟨rfl, hv21, f22⟩ := hq
    have fx21 : FX KAm h h21 := FX.tr fx18 f22
    exact gi_vret (pc := 80) ⟨rfl, hv21, fx21⟩ hv21 dX2_open_80
  ·
    refine go_aload_n (pc := 11) rfl dX2_open_11 ?_
    refine go_iconst (pc := 12) (v := 2) (by decide) dX2_open_12 ?_
    refine gi_put (pc := 13) (lo := -1) (hi := 3) hv (ti_c (v := 2) (a := 2) (by decide)) (fP_X2_31 _) rfl (Nat.le_of_ble_eq_true rfl) rfl rfl (by omega) (by omega) rfl rfl (by decide) (by decide) (by decide) (by decide) dX2_open_13 (fun h23 hv23 hv23e => ?_)
    have fx23 : FX KAm h h23 := FX.pI fx hv23e (by unfold KAm; omega)
    exact gi_vret (pc := 16) ⟨rfl, hv23, fx23⟩ hv23 dX2_open_16
set_option maxHeartbeats 4000000 in
set_option maxRecDepth 100000 in
theorem s_X2_perform_f (l : Launch) (d : Nat) {P : PP} {h : HP} (hv : Iv P h) (a2 : Int32) (a2l : 0 ≤ a2.toInt) (a2u : a2.toInt ≤ 39) : Mt l yX2_perform cX2_perform 4 none (d + 4) [.ref 64, .int a2] h 0 0 (fun r h' => r = none ∧ Iv P h' ∧ (FX KAm h h')) := by
  refine Mt_iv hv (by decide) (Nat.le_of_ble_eq_true rfl) ?_
  show Go l RX2 cX2_perform 4 (g_rm (d + 4) 0 0) "perform" none 117 0 0 (fun _ _ => True) (fun r h' => r = none ∧ Iv P h' ∧ (FX KAm h h')) 0 0 [(0, .ref 64), (1, .int a2)] [] h
  have fx : FX KAm h h := FX.rfl
  have key : ∀ n : Nat, (∀ (l1 : Int32) (s0 : Int32) (hx : HP), Iv P hx → 0 ≤ l1.toInt → l1.toInt ≤ 39 → 0 ≤ s0.toInt → s0.toInt ≤ 1 → FX KAm h hx → (4 : Int) < n → Go l RX2 cX2_perform 4 (g_rm (d + 4) 0 0) "perform" none 117 0 0 (fun _ _ => True) (fun r h' => r = none ∧ Iv P h' ∧ (FX KAm h h')) 0 210 [(0, .ref 64), (1, .int l1)] [.int s0] hx) ∧ (∀ (l1 : Int32) (l3 : Int32) (s0 : Int32) (s1 : Int32) (hx : HP), Iv P hx → 0 ≤ l1.toInt → l1.toInt ≤ 39 → 0 ≤ l3.toInt → l3.toInt ≤ 1 → 0 ≤ s0.toInt → s0.toInt ≤ 1 → 0 ≤ s1.toInt → s1.toInt ≤ 39 → FX KAm h hx → (3 : Int) < n → Go l RX2 cX2_perform 4 (g_rm (d + 4) 0 0) "perform" none 117 0 0 (fun _ _ => True) (fun r h' => r = none ∧ Iv P h' ∧ (FX KAm h h')) 0 222 [(0, .ref 64), (1, .int l1), (3, .int l3)] [.int s0, .int s1, .ref 64] hx) ∧ (∀ (s0 : Int32) (hx : HP), Iv P hx → 0 ≤ s0.toInt → s0.toInt ≤ 44 → FX KAm h hx → (2 : Int) < n → Go l RX2 cX2_perform 4 (g_rm (d + 4) 0 0) "perform" none 117 0 0 (fun _ _ => True) (fun r h' => r = none ∧ Iv P h' ∧ (FX KAm h h')) 0 251 [] [.int s0, .ref 64] hx) ∧ (∀  (hx : HP), Iv P hx → FX KAm h hx → (1 : Int) < n → Go l RX2 cX2_perform 4 (g_rm (d + 4) 0 0) "perform" none 117 0 0 (fun _ _ => True) (fun r h' => r = none ∧ Iv P h' ∧ (FX KAm h h')) 0 254 [] [] hx) := by
    intro n
    induction n with
    | zero => exact ⟨(by intros; omega), (by intros; omega), (by intros; omega), (by intros; omega)⟩
    | succ n ih =>
      refine ⟨?_, ?_, ?_, ?_⟩
      ·
        intro l1 s0 hx hvx l1l l1u s0l s0u fxx hm
        refine go_istore_n (pc := 210) (Nat.le_of_ble_eq_true rfl) dX2_perform_210 (go_lv (lv2 := [(0, .ref 64), (1, .int l1), (3, .int s0)]) rfl ?_)
        refine go_aload_n (pc := 211) rfl dX2_perform_211 ?_
        refine go_iload_n (pc := 212) rfl dX2_perform_212 ?_
        refine go_iload_n (pc := 213) rfl dX2_perform_213 ?_
        refine gf_if_eq (pc := 214) (tgt := 221) (ti_rfl s0) (by decide) dX2_perform_214 (fun q1 => ?_) (fun q1 => ?_)
        ·
          refine go_iconst (pc := 221) (v := 0) (by decide) dX2_perform_221 ?_
          have z2 : (0 : Int32).toInt = 0 := (ti_c (v := 0) (a := 0) (by decide))
          exact go_lv rfl (ih.2.1 l1 s0 0 l1 hx hvx (by omega) (by omega) (by omega) (by omega) (by omega) (by omega) (by omega) (by omega) fxx (by omega))
        ·
          refine go_iconst (pc := 217) (v := 1) (by decide) dX2_perform_217 ?_
          refine go_goto (pc := 218) (tgt := 222) (by decide) dX2_perform_218 ?_
          have z3 : (1 : Int32).toInt = 1 := (ti_c (v := 1) (a := 1) (by decide))
          exact go_lv rfl (ih.2.1 l1 s0 1 l1 hx hvx (by omega) (by omega) (by omega) (by omega) (by omega) (by omega) (by omega) (by omega) fxx (by omega))
      ·
        intro l1 l3 s0 s1 hx hvx l1l l1u l3l l3u s0l s0u s1l s1u fxx hm
        refine go_invV (pc := 222) (sl := 0) (s_X2_see_f l (d + 2) hvx s1 s0) mL_X2_102 iM_X2_see sM_X2_see (hvx.sh rfl) rfl rfl rfl (Nat.le_of_ble_eq_true rfl) (show d + 2 + 1 + 1 ≤ d + 4 by omega) (show 8 + (3 + 11) + 40 * (d + 2 + 1) ≤ 40 * (d + 4) by omega) (g_c0 hvx.ln) (Nat.le_of_ble_eq_true rfl) dX2_perform_222 ?_
        intro r h4 hq _
        obtain ⟨rfl, hv4, f5⟩ := hq
        have fx4 : FX KAm h h4 := FX.tr fxx f5
        refine go_aload_n (pc := 225) rfl dX2_perform_225 ?_
        refine go_iload_n (pc := 226) rfl dX2_perform_226 ?_
        refine gf_if_eq (pc := 227) (tgt := 242) (ti_rfl l3) (by decide) dX2_perform_227 (fun q6 => ?_) (fun q6 => ?_)
        ·
          refine go_aload_n (pc := 242) rfl dX2_perform_242 ?_
          refine gi_getC (pc := 243) hv4 fL_X2_50 rfl (Nat.le_of_ble_eq_true rfl) rfl (by decide) dX2_perform_243 (fun c7 hc7 fc7 => ?_)
          refine gi_getF (pc := 246) (q := c7 + 12) hv4 fL_X2_105 (by rcases hc7 with rfl | rfl <;> rfl) (Nat.le_of_ble_eq_true rfl) rfl (by rcases hc7 with rfl | rfl <;> exact hv4.rf (by decide)) dX2_perform_246 ?_
          refine go_iload_n (pc := 249) rfl dX2_perform_249 ?_
          refine gi_iald (pc := 250) (lo := 0) (hi := 44) (len := 40) hv4 (ti_rfl l1) (by rcases hc7 with rfl | rfl <;> rfl) (by omega) (by omega) (fun _ => by rcases hc7 with rfl | rfl <;> rfl) dX2_perform_250 (fun v8 v8l v8u v8w => ?_)
          exact go_lv rfl (ih.2.2.1 v8 h4 hv4 (by omega) (by omega) fx4 (by omega))
        ·
          refine go_aload_n (pc := 230) rfl dX2_perform_230 ?_
          refine gi_getC (pc := 231) hv4 fL_X2_50 rfl (Nat.le_of_ble_eq_true rfl) rfl (by decide) dX2_perform_231 (fun c9 hc9 fc9 => ?_)
          refine gi_getF (pc := 234) (q := c9 + 13) hv4 fL_X2_123 (by rcases hc9 with rfl | rfl <;> rfl) (Nat.le_of_ble_eq_true rfl) rfl (by rcases hc9 with rfl | rfl <;> exact hv4.rf (by decide)) dX2_perform_234 ?_
          refine go_iload_n (pc := 237) rfl dX2_perform_237 ?_
          refine gi_iald (pc := 238) (lo := 0) (hi := 44) (len := 40) hv4 (ti_rfl l1) (by rcases hc9 with rfl | rfl <;> rfl) (by omega) (by omega) (fun _ => by rcases hc9 with rfl | rfl <;> rfl) dX2_perform_238 (fun v10 v10l v10u v10w => ?_)
          refine go_goto (pc := 239) (tgt := 251) (by decide) dX2_perform_239 ?_
          exact go_lv rfl (ih.2.2.1 v10 h4 hv4 (by omega) (by omega) fx4 (by omega))
      ·
        intro s0 hx hvx s0l s0u fxx hm
        refine gi_put (pc := 251) (lo := 0) (hi := 44) hvx (ti_rfl s0) (fP_X2_25 _) rfl (Nat.le_of_ble_eq_true rfl) rfl rfl (by omega) (by omega) rfl rfl (by decide) (by decide) (by decide) (by decide) dX2_perform_251 (fun h11 hv11 hv11e => ?_)
        have fx11 : FX KAm h h11 := FX.pI fxx hv11e (by unfold KAm; omega)
        exact go_lv rfl (ih.2.2.2  h11 hv11 fx11 (by omega))
      ·
        intro hx hvx fxx hm
        exact gi_vret (pc := 254) ⟨rfl, hvx, fxx⟩ hvx dX2_perform_254
  refine go_aload_n (pc := 0) rfl dX2_perform_0 ?_
  refine gi_getC (pc := 1) hv fL_X2_50 rfl (Nat.le_of_ble_eq_true rfl) rfl (by decide) dX2_perform_1 (fun c12 hc12 fc12 => ?_)
  refine gi_getF (pc := 4) (q := c12 + 2) hv fL_X2_88 (by rcases hc12 with rfl | rfl <;> rfl) (Nat.le_of_ble_eq_true rfl) rfl (by rcases hc12 with rfl | rfl <;> exact hv.rf (by decide)) dX2_perform_4 ?_
  refine go_iload_n (pc := 7) rfl dX2_perform_7 ?_
  refine gi_iald (pc := 8) (lo := 0) (hi := 5) (len := 40) hv (ti_rfl a2) (by rcases hc12 with rfl | rfl <;> rfl) (by omega) (by omega) (fun _ => by rcases hc12 with rfl | rfl <;> rfl) dX2_perform_8 (fun v13 v13l v13u v13w => ?_)
  by_cases q14 : v13.toInt = 0
  ·
    refine go_tableIn (pc := 9) (tgt := 48) (off := 39) (by rw [show (v13 : Int32).toInt = v13.toInt from (ti_rfl v13)]; omega) (by rw [show (v13 : Int32).toInt = v13.toInt from (ti_rfl v13)]; omega) (by rw [show (v13 : Int32).toInt = v13.toInt from (ti_rfl v13), q14]; rfl) (by decide) dX2_perform_9 ?_
    refine go_aload_n (pc := 48) rfl dX2_perform_48 ?_
    refine go_iload_n (pc := 49) rfl dX2_perform_49 ?_
    refine go_invV (pc := 50) (sl := 0) (s_X2_compute l (d + 1) hv a2 (by rw [show (a2 : Int32).toInt = a2.toInt from (ti_rfl a2)]; omega) (by rw [show (a2 : Int32).toInt = a2.toInt from (ti_rfl a2)]; omega)) mL_X2_91 iM_X2_compute sM_X2_compute (hv.sh rfl) rfl rfl rfl (Nat.le_of_ble_eq_true rfl) (show d + 1 + 2 + 1 ≤ d + 4 by omega) (show 8 + (4 + 11) + 40 * (d + 1 + 2) ≤ 40 * (d + 4) by omega) (g_c0 hv.ln) (Nat.le_of_ble_eq_true rfl) dX2_perform_50 ?_
    intro r h15 hq _
    obtain ⟨v16, rfl, v16l, v16u, rfl⟩ := hq
    refine go_istore_n (pc := 53) (Nat.le_of_ble_eq_true rfl) dX2_perform_53 (go_lv (lv2 := [(0, .ref 64), (1, .int a2), (2, .int v16)]) rfl ?_)
    refine go_aload_n (pc := 54) rfl dX2_perform_54 ?_
    refine go_aload_n (pc := 55) rfl dX2_perform_55 ?_
    refine gi_getC (pc := 56) hv fL_X2_50 rfl (Nat.le_of_ble_eq_true rfl) rfl (by decide) dX2_perform_56 (fun c17 hc17 fc17 => ?_)
    refine gi_getF (pc := 59) (q := c17 + 6) hv fL_X2_95 (by rcases hc17 with rfl | rfl <;> rfl) (Nat.le_of_ble_eq_true rfl) rfl (by rcases hc17 with rfl | rfl <;> exact hv.rf (by decide)) dX2_perform_59 ?_
    refine go_iload_n (pc := 62) rfl dX2_perform_62 ?_
    refine gi_iald (pc := 63) (lo := -1) (hi := 9) (len := 40) hv (ti_rfl a2) (by rcases hc17 with rfl | rfl <;> rfl) (by omega) (by omega) (fun _ => by rcases hc17 with rfl | rfl <;> rfl) dX2_perform_63 (fun v18 v18l v18u v18w => ?_)
    refine go_iload_n (pc := 64) rfl dX2_perform_64 ?_
    refine go_invV (pc := 65) (sl := 0) (s_X2_store_f l (d + 2) hv v18 (by rw [show (v18 : Int32).toInt = v18.toInt from (ti_rfl v18)]; omega) (by rw [show (v18 : Int32).toInt = v18.toInt from (ti_rfl v18)]; omega) v16) mL_X2_98 iM_X2_store sM_X2_store (hv.sh rfl) rfl rfl rfl (Nat.le_of_ble_eq_true rfl) (show d + 2 + 1 + 1 ≤ d + 4 by omega) (show 8 + (3 + 11) + 40 * (d + 2 + 1) ≤ 40 * (d + 4) by omega) (g_c0 hv.ln) (Nat.le_of_ble_eq_true rfl) dX2_perform_65 ?_
    intro r h19 hq _
    obtain ⟨rfl, hv19, f20⟩ := hq
    have fx19 : FX KAm h h19 := FX.tr fx f20
    refine go_aload_n (pc := 68) rfl dX2_perform_68 ?_
    refine go_iload_n (pc := 69) rfl dX2_perform_69 ?_
    refine go_iload_n (pc := 70) rfl dX2_perform_70 ?_
    refine go_invV (pc := 71) (sl := 0) (s_X2_see_f l (d + 2) hv19 a2 v16) mL_X2_102 iM_X2_see sM_X2_see (hv19.sh rfl) rfl rfl rfl (Nat.le_of_ble_eq_true rfl) (show d + 2 + 1 + 1 ≤ d + 4 by omega) (show 8 + (3 + 11) + 40 * (d + 2 + 1) ≤ 40 * (d + 4) by omega) (g_c0 hv19.ln) (Nat.le_of_ble_eq_true rfl) dX2_perform_71 ?_
    intro r h21 hq _
    obtain ⟨rfl, hv21, f22⟩ := hq
    have fx21 : FX KAm h h21 := FX.tr fx19 f22
    refine go_aload_n (pc := 74) rfl dX2_perform_74 ?_
    refine go_aload_n (pc := 75) rfl dX2_perform_75 ?_
    refine gi_getC (pc := 76) hv21 fL_X2_50 rfl (Nat.le_of_ble_eq_true rfl) rfl (by decide) dX2_perform_76 (fun c23 hc23 fc23 => ?_)
    refine gi_getF (pc := 79) (q := c23 + 12) hv21 fL_X2_105 (by rcases hc23 with rfl | rfl <;> rfl) (Nat.le_of_ble_eq_true rfl) rfl (by rcases hc23 with rfl | rfl <;> exact hv21.rf (by decide)) dX2_perform_79 ?_
    refine go_iload_n (pc := 82) rfl dX2_perform_82 ?_
    refine gi_iald (pc := 83) (lo := 0) (hi := 44) (len := 40) hv21 (ti_rfl a2) (by rcases hc23 with rfl | rfl <;> rfl) (by omega) (by omega) (fun _ => by rcases hc23 with rfl | rfl <;> rfl) dX2_perform_83 (fun v24 v24l v24u v24w => ?_)
    refine gi_put (pc := 84) (lo := 0) (hi := 44) hv21 (ti_rfl v24) (fP_X2_25 _) rfl (Nat.le_of_ble_eq_true rfl) rfl rfl (by omega) (by omega) rfl rfl (by decide) (by decide) (by decide) (by decide) dX2_perform_84 (fun h25 hv25 hv25e => ?_)
    have fx25 : FX KAm h h25 := FX.pI fx21 hv25e (by unfold KAm; omega)
    refine go_goto (pc := 87) (tgt := 254) (by decide) dX2_perform_87 ?_
    exact go_lv rfl ((key 17).2.2.2  h25 hv25 fx25 (by omega))
  by_cases q26 : v13.toInt = 1
  ·
    refine go_tableIn (pc := 9) (tgt := 90) (off := 81) (by rw [show (v13 : Int32).toInt = v13.toInt from (ti_rfl v13)]; omega) (by rw [show (v13 : Int32).toInt = v13.toInt from (ti_rfl v13)]; omega) (by rw [show (v13 : Int32).toInt = v13.toInt from (ti_rfl v13), q26]; rfl) (by decide) dX2_perform_9 ?_
    refine go_aload_n (pc := 90) rfl dX2_perform_90 ?_
    refine go_iload_n (pc := 91) rfl dX2_perform_91 ?_
    refine go_invV (pc := 92) (sl := 0) (s_X2_open_f l (d + 1) hv a2 (by rw [show (a2 : Int32).toInt = a2.toInt from (ti_rfl a2)]; omega) (by rw [show (a2 : Int32).toInt = a2.toInt from (ti_rfl a2)]; omega) (fun c2 hc2 => by have e := fc12.symm.trans hc2; cases e; rw [← v13w]; exact q26)) mL_X2_108 iM_X2_open sM_X2_open (hv.sh rfl) rfl rfl rfl (Nat.le_of_ble_eq_true rfl) (show d + 1 + 2 + 1 ≤ d + 4 by omega) (show 8 + (4 + 11) + 40 * (d + 1 + 2) ≤ 40 * (d + 4) by omega) (g_c0 hv.ln) (Nat.le_of_ble_eq_true rfl) dX2_perform_92 ?_
    intro r h27 hq _
    obtain ⟨rfl, hv27, f28⟩ := hq
    have fx27 : FX KAm h h27 := FX.tr fx f28
    refine go_goto (pc := 95) (tgt := 254) (by decide) dX2_perform_95 ?_
    exact go_lv rfl ((key 17).2.2.2  h27 hv27 fx27 (by omega))
  by_cases q29 : v13.toInt = 2
  ·
    refine go_tableIn (pc := 9) (tgt := 176) (off := 167) (by rw [show (v13 : Int32).toInt = v13.toInt from (ti_rfl v13)]; omega) (by rw [show (v13 : Int32).toInt = v13.toInt from (ti_rfl v13)]; omega) (by rw [show (v13 : Int32).toInt = v13.toInt from (ti_rfl v13), q29]; rfl) (by decide) dX2_perform_9 ?_
    refine go_aload_n (pc := 176) rfl dX2_perform_176 ?_
    refine go_aload_n (pc := 177) rfl dX2_perform_177 ?_
    refine gi_getC (pc := 178) hv fL_X2_50 rfl (Nat.le_of_ble_eq_true rfl) rfl (by decide) dX2_perform_178 (fun c30 hc30 fc30 => ?_)
    refine gi_getF (pc := 181) (q := c30 + 9) hv fL_X2_111 (by rcases hc30 with rfl | rfl <;> rfl) (Nat.le_of_ble_eq_true rfl) rfl (by rcases hc30 with rfl | rfl <;> exact hv.rf (by decide)) dX2_perform_181 ?_
    refine go_iload_n (pc := 184) rfl dX2_perform_184 ?_
    refine gi_iald (pc := 185) (lo := -2147483648) (hi := 2147483647) (len := 40) hv (ti_rfl a2) (by rcases hc30 with rfl | rfl <;> rfl) (by omega) (by omega) (fun _ => by rcases hc30 with rfl | rfl <;> rfl) dX2_perform_185 (fun v31 v31l v31u v31w => ?_)
    refine go_invV (pc := 186) (sl := 0) (s_X2_load l (d + 2) hv v31) mL_X2_114 iM_X2_load sM_X2_load (hv.sh rfl) rfl rfl rfl (Nat.le_of_ble_eq_true rfl) (show d + 2 + 1 + 1 ≤ d + 4 by omega) (show 8 + (2 + 11) + 40 * (d + 2 + 1) ≤ 40 * (d + 4) by omega) (g_c0 hv.ln) (Nat.le_of_ble_eq_true rfl) dX2_perform_186 ?_
    intro r h32 hq _
    obtain ⟨v33, rfl, v33l, v33u, rfl⟩ := hq
    refine go_aload_n (pc := 189) rfl dX2_perform_189 ?_
    refine go_aload_n (pc := 190) rfl dX2_perform_190 ?_
    refine gi_getC (pc := 191) hv fL_X2_50 rfl (Nat.le_of_ble_eq_true rfl) rfl (by decide) dX2_perform_191 (fun c34 hc34 fc34 => ?_)
    refine gi_getF (pc := 194) (q := c34 + 10) hv fL_X2_120 (by rcases hc34 with rfl | rfl <;> rfl) (Nat.le_of_ble_eq_true rfl) rfl (by rcases hc34 with rfl | rfl <;> exact hv.rf (by decide)) dX2_perform_194 ?_
    refine go_iload_n (pc := 197) rfl dX2_perform_197 ?_
    refine gi_iald (pc := 198) (lo := -2147483648) (hi := 2147483647) (len := 40) hv (ti_rfl a2) (by rcases hc34 with rfl | rfl <;> rfl) (by omega) (by omega) (fun _ => by rcases hc34 with rfl | rfl <;> rfl) dX2_perform_198 (fun v35 v35l v35u v35w => ?_)
    refine go_invV (pc := 199) (sl := 0) (s_X2_load l (d + 2) hv v35) mL_X2_114 iM_X2_load sM_X2_load (hv.sh rfl) rfl rfl rfl (Nat.le_of_ble_eq_true rfl) (show d + 2 + 1 + 1 ≤ d + 4 by omega) (show 8 + (2 + 11) + 40 * (d + 2 + 1) ≤ 40 * (d + 4) by omega) (g_c0 hv.ln) (Nat.le_of_ble_eq_true rfl) dX2_perform_199 ?_
    intro r h36 hq _
    obtain ⟨v37, rfl, v37l, v37u, rfl⟩ := hq
    refine gf_icmp_ge (pc := 202) (tgt := 209) (ti_rfl v33) (ti_rfl v37) (by decide) dX2_perform_202 (fun q38 => ?_) (fun q38 => ?_)
    ·
      refine go_iconst (pc := 209) (v := 0) (by decide) dX2_perform_209 ?_
      have z39 : (0 : Int32).toInt = 0 := (ti_c (v := 0) (a := 0) (by decide))
      exact go_lv rfl ((key 17).1 a2 0 h hv (by omega) (by omega) (by omega) (by omega) fx (by omega))
    ·
      refine go_iconst (pc := 205) (v := 1) (by decide) dX2_perform_205 ?_
      refine go_goto (pc := 206) (tgt := 210) (by decide) dX2_perform_206 ?_
      have z40 : (1 : Int32).toInt = 1 := (ti_c (v := 1) (a := 1) (by decide))
      exact go_lv rfl ((key 17).1 a2 1 h hv (by omega) (by omega) (by omega) (by omega) fx (by omega))
  by_cases q41 : v13.toInt = 3
  ·
    refine go_tableIn (pc := 9) (tgt := 176) (off := 167) (by rw [show (v13 : Int32).toInt = v13.toInt from (ti_rfl v13)]; omega) (by rw [show (v13 : Int32).toInt = v13.toInt from (ti_rfl v13)]; omega) (by rw [show (v13 : Int32).toInt = v13.toInt from (ti_rfl v13), q41]; rfl) (by decide) dX2_perform_9 ?_
    refine go_aload_n (pc := 176) rfl dX2_perform_176 ?_
    refine go_aload_n (pc := 177) rfl dX2_perform_177 ?_
    refine gi_getC (pc := 178) hv fL_X2_50 rfl (Nat.le_of_ble_eq_true rfl) rfl (by decide) dX2_perform_178 (fun c42 hc42 fc42 => ?_)
    refine gi_getF (pc := 181) (q := c42 + 9) hv fL_X2_111 (by rcases hc42 with rfl | rfl <;> rfl) (Nat.le_of_ble_eq_true rfl) rfl (by rcases hc42 with rfl | rfl <;> exact hv.rf (by decide)) dX2_perform_181 ?_
    refine go_iload_n (pc := 184) rfl dX2_perform_184 ?_
    refine gi_iald (pc := 185) (lo := -2147483648) (hi := 2147483647) (len := 40) hv (ti_rfl a2) (by rcases hc42 with rfl | rfl <;> rfl) (by omega) (by omega) (fun _ => by rcases hc42 with rfl | rfl <;> rfl) dX2_perform_185 (fun v43 v43l v43u v43w => ?_)
    refine go_invV (pc := 186) (sl := 0) (s_X2_load l (d + 2) hv v43) mL_X2_114 iM_X2_load sM_X2_load (hv.sh rfl) rfl rfl rfl (Nat.le_of_ble_eq_true rfl) (show d + 2 + 1 + 1 ≤ d + 4 by omega) (show 8 + (2 + 11) + 40 * (d + 2 + 1) ≤ 40 * (d + 4) by omega) (g_c0 hv.ln) (Nat.le_of_ble_eq_true rfl) dX2_perform_186 ?_
    intro r h44 hq _
    obtain ⟨v45, rfl, v45l, v45u, rfl⟩ := hq
    refine go_aload_n (pc := 189) rfl dX2_perform_189 ?_
    refine go_aload_n (pc := 190) rfl dX2_perform_190 ?_
    refine gi_getC (pc := 191) hv fL_X2_50 rfl (Nat.le_of_ble_eq_true rfl) rfl (by decide) dX2_perform_191 (fun c46 hc46 fc46 => ?_)
    refine gi_getF (pc := 194) (q := c46 + 10) hv fL_X2_120 (by rcases hc46 with rfl | rfl <;> rfl) (Nat.le_of_ble_eq_true rfl) rfl (by rcases hc46 with rfl | rfl <;> exact hv.rf (by decide)) dX2_perform_194 ?_
    refine go_iload_n (pc := 197) rfl dX2_perform_197 ?_
    refine gi_iald (pc := 198) (lo := -2147483648) (hi := 2147483647) (len := 40) hv (ti_rfl a2) (by rcases hc46 with rfl | rfl <;> rfl) (by omega) (by omega) (fun _ => by rcases hc46 with rfl | rfl <;> rfl) dX2_perform_198 (fun v47 v47l v47u v47w => ?_)
    refine go_invV (pc := 199) (sl := 0) (s_X2_load l (d + 2) hv v47) mL_X2_114 iM_X2_load sM_X2_load (hv.sh rfl) rfl rfl rfl (Nat.le_of_ble_eq_true rfl) (show d + 2 + 1 + 1 ≤ d + 4 by omega) (show 8 + (2 + 11) + 40 * (d + 2 + 1) ≤ 40 * (d + 4) by omega) (g_c0 hv.ln) (Nat.le_of_ble_eq_true rfl) dX2_perform_199 ?_
    intro r h48 hq _
    obtain ⟨v49, rfl, v49l, v49u, rfl⟩ := hq
    refine gf_icmp_ge (pc := 202) (tgt := 209) (ti_rfl v45) (ti_rfl v49) (by decide) dX2_perform_202 (fun q50 => ?_) (fun q50 => ?_)
    ·
      refine go_iconst (pc := 209) (v := 0) (by decide) dX2_perform_209 ?_
      have z51 : (0 : Int32).toInt = 0 := (ti_c (v := 0) (a := 0) (by decide))
      exact go_lv rfl ((key 17).1 a2 0 h hv (by omega) (by omega) (by omega) (by omega) fx (by omega))
    ·
      refine go_iconst (pc := 205) (v := 1) (by decide) dX2_perform_205 ?_
      refine go_goto (pc := 206) (tgt := 210) (by decide) dX2_perform_206 ?_
      have z52 : (1 : Int32).toInt = 1 := (ti_c (v := 1) (a := 1) (by decide))
      exact go_lv rfl ((key 17).1 a2 1 h hv (by omega) (by omega) (by omega) (by omega) fx (by omega))
  by_cases q53 : v13.toInt = 4
  ·
    refine go_tableIn (pc := 9) (tgt := 98) (off := 89) (by rw [show (v13 : Int32).toInt = v13.toInt from (ti_rfl v13)]; omega) (by rw [show (v13 : Int32).toInt = v13.toInt from (ti_rfl v13)]; omega) (by rw [show (v13 : Int32).toInt = v13.toInt from (ti_rfl v13), q53]; rfl) (by decide) dX2_perform_9 ?_
    refine go_aload_n (pc := 98) rfl dX2_perform_98 ?_
    refine go_iload_n (pc := 99) rfl dX2_perform_99 ?_
    refine go_aload_n (pc := 100) rfl dX2_perform_100 ?_
    refine go_aload_n (pc := 101) rfl dX2_perform_101 ?_
    refine gi_getC (pc := 102) hv fL_X2_50 rfl (Nat.le_of_ble_eq_true rfl) rfl (by decide) dX2_perform_102 (fun c54 hc54 fc54 => ?_)
    refine gi_getF (pc := 105) (q := c54 + 9) hv fL_X2_111 (by rcases hc54 with rfl | rfl <;> rfl) (Nat.le_of_ble_eq_true rfl) rfl (by rcases hc54 with rfl | rfl <;> exact hv.rf (by decide)) dX2_perform_105 ?_
    refine go_iload_n (pc := 108) rfl dX2_perform_108 ?_
    refine gi_iald (pc := 109) (lo := -2147483648) (hi := 2147483647) (len := 40) hv (ti_rfl a2) (by rcases hc54 with rfl | rfl <;> rfl) (by omega) (by omega) (fun _ => by rcases hc54 with rfl | rfl <;> rfl) dX2_perform_109 (fun v55 v55l v55u v55w => ?_)
    refine go_invV (pc := 110) (sl := 0) (s_X2_load l (d + 2) hv v55) mL_X2_114 iM_X2_load sM_X2_load (hv.sh rfl) rfl rfl rfl (Nat.le_of_ble_eq_true rfl) (show d + 2 + 1 + 1 ≤ d + 4 by omega) (show 8 + (2 + 11) + 40 * (d + 2 + 1) ≤ 40 * (d + 4) by omega) (g_c0 hv.ln) (Nat.le_of_ble_eq_true rfl) dX2_perform_110 ?_
    intro r h56 hq _
    obtain ⟨v57, rfl, v57l, v57u, rfl⟩ := hq
    refine go_invV (pc := 113) (sl := 0) (s_X2_see_f l (d + 2) hv a2 v57) mL_X2_102 iM_X2_see sM_X2_see (hv.sh rfl) rfl rfl rfl (Nat.le_of_ble_eq_true rfl) (show d + 2 + 1 + 1 ≤ d + 4 by omega) (show 8 + (3 + 11) + 40 * (d + 2 + 1) ≤ 40 * (d + 4) by omega) (g_c0 hv.ln) (Nat.le_of_ble_eq_true rfl) dX2_perform_113 ?_
    intro r h58 hq _
    obtain ⟨rfl, hv58, f59⟩ := hq
    have fx58 : FX KAm h h58 := FX.tr fx f59
    refine go_aload_n (pc := 116) rfl dX2_perform_116 ?_
    refine go_iload_n (pc := 117) rfl dX2_perform_117 ?_
    refine go_aload_n (pc := 118) rfl dX2_perform_118 ?_
    refine go_aload_n (pc := 119) rfl dX2_perform_119 ?_
    refine gi_getC (pc := 120) hv58 fL_X2_50 rfl (Nat.le_of_ble_eq_true rfl) rfl (by decide) dX2_perform_120 (fun c60 hc60 fc60 => ?_)
    refine gi_getF (pc := 123) (q := c60 + 9) hv58 fL_X2_111 (by rcases hc60 with rfl | rfl <;> rfl) (Nat.le_of_ble_eq_true rfl) rfl (by rcases hc60 with rfl | rfl <;> exact hv58.rf (by decide)) dX2_perform_123 ?_
    refine go_iload_n (pc := 126) rfl dX2_perform_126 ?_
    refine gi_iald (pc := 127) (lo := -2147483648) (hi := 2147483647) (len := 40) hv58 (ti_rfl a2) (by rcases hc60 with rfl | rfl <;> rfl) (by omega) (by omega) (fun _ => by rcases hc60 with rfl | rfl <;> rfl) dX2_perform_127 (fun v61 v61l v61u v61w => ?_)
    refine go_invV (pc := 128) (sl := 0) (s_X2_load l (d + 2) hv58 v61) mL_X2_114 iM_X2_load sM_X2_load (hv58.sh rfl) rfl rfl rfl (Nat.le_of_ble_eq_true rfl) (show d + 2 + 1 + 1 ≤ d + 4 by omega) (show 8 + (2 + 11) + 40 * (d + 2 + 1) ≤ 40 * (d + 4) by omega) (g_c0 hv58.ln) (Nat.le_of_ble_eq_true rfl) dX2_perform_128 ?_
    intro r h62 hq _
    obtain ⟨v63, rfl, v63l, v63u, rfl⟩ := hq
    refine go_invV (pc := 131) (sl := 0) (s_X2_raise_f l (d + 0) hv58 a2 (by rw [show (a2 : Int32).toInt = a2.toInt from (ti_rfl a2)]; omega) (by rw [show (a2 : Int32).toInt = a2.toInt from (ti_rfl a2)]; omega) v63) mL_X2_117 iM_X2_raise sM_X2_raise (hv58.sh rfl) rfl rfl rfl (Nat.le_of_ble_eq_true rfl) (show d + 0 + 3 + 1 ≤ d + 4 by omega) (show 8 + (3 + 11) + 40 * (d + 0 + 3) ≤ 40 * (d + 4) by omega) (g_c0 hv58.ln) (Nat.le_of_ble_eq_true rfl) dX2_perform_131 ?_
    intro r h64 hq _
    obtain ⟨rfl, hv64, f65⟩ := hq
    have fx64 : FX KAm h h64 := FX.tr fx58 f65
    refine go_goto (pc := 134) (tgt := 254) (by decide) dX2_perform_134 ?_
    exact go_lv rfl ((key 17).2.2.2  h64 hv64 fx64 (by omega))
  by_cases q66 : v13.toInt = 5
  ·
    refine go_tableIn (pc := 9) (tgt := 137) (off := 128) (by rw [show (v13 : Int32).toInt = v13.toInt from (ti_rfl v13)]; omega) (by rw [show (v13 : Int32).toInt = v13.toInt from (ti_rfl v13)]; omega) (by rw [show (v13 : Int32).toInt = v13.toInt from (ti_rfl v13), q66]; rfl) (by decide) dX2_perform_9 ?_
    refine go_aload_n (pc := 137) rfl dX2_perform_137 ?_
    refine go_iload_n (pc := 138) rfl dX2_perform_138 ?_
    refine go_aload_n (pc := 139) rfl dX2_perform_139 ?_
    refine go_aload_n (pc := 140) rfl dX2_perform_140 ?_
    refine gi_getC (pc := 141) hv fL_X2_50 rfl (Nat.le_of_ble_eq_true rfl) rfl (by decide) dX2_perform_141 (fun c67 hc67 fc67 => ?_)
    refine gi_getF (pc := 144) (q := c67 + 9) hv fL_X2_111 (by rcases hc67 with rfl | rfl <;> rfl) (Nat.le_of_ble_eq_true rfl) rfl (by rcases hc67 with rfl | rfl <;> exact hv.rf (by decide)) dX2_perform_144 ?_
    refine go_iload_n (pc := 147) rfl dX2_perform_147 ?_
    refine gi_iald (pc := 148) (lo := -2147483648) (hi := 2147483647) (len := 40) hv (ti_rfl a2) (by rcases hc67 with rfl | rfl <;> rfl) (by omega) (by omega) (fun _ => by rcases hc67 with rfl | rfl <;> rfl) dX2_perform_148 (fun v68 v68l v68u v68w => ?_)
    refine go_invV (pc := 149) (sl := 0) (s_X2_load l (d + 2) hv v68) mL_X2_114 iM_X2_load sM_X2_load (hv.sh rfl) rfl rfl rfl (Nat.le_of_ble_eq_true rfl) (show d + 2 + 1 + 1 ≤ d + 4 by omega) (show 8 + (2 + 11) + 40 * (d + 2 + 1) ≤ 40 * (d + 4) by omega) (g_c0 hv.ln) (Nat.le_of_ble_eq_true rfl) dX2_perform_149 ?_
    intro r h69 hq _
    obtain ⟨v70, rfl, v70l, v70u, rfl⟩ := hq
    refine go_invV (pc := 152) (sl := 0) (s_X2_see_f l (d + 2) hv a2 v70) mL_X2_102 iM_X2_see sM_X2_see (hv.sh rfl) rfl rfl rfl (Nat.le_of_ble_eq_true rfl) (show d + 2 + 1 + 1 ≤ d + 4 by omega) (show 8 + (3 + 11) + 40 * (d + 2 + 1) ≤ 40 * (d + 4) by omega) (g_c0 hv.ln) (Nat.le_of_ble_eq_true rfl) dX2_perform_152 ?_
    intro r h71 hq _
    obtain ⟨rfl, hv71, f72⟩ := hq
    have fx71 : FX KAm h h71 := FX.tr fx f72
    refine go_aload_n (pc := 155) rfl dX2_perform_155 ?_
    refine go_aload_n (pc := 156) rfl dX2_perform_156 ?_
    refine go_aload_n (pc := 157) rfl dX2_perform_157 ?_
    refine gi_getC (pc := 158) hv71 fL_X2_50 rfl (Nat.le_of_ble_eq_true rfl) rfl (by decide) dX2_perform_158 (fun c73 hc73 fc73 => ?_)
    refine gi_getF (pc := 161) (q := c73 + 9) hv71 fL_X2_111 (by rcases hc73 with rfl | rfl <;> rfl) (Nat.le_of_ble_eq_true rfl) rfl (by rcases hc73 with rfl | rfl <;> exact hv71.rf (by decide)) dX2_perform_161 ?_
    refine go_iload_n (pc := 164) rfl dX2_perform_164 ?_
    refine gi_iald (pc := 165) (lo := -2147483648) (hi := 2147483647) (len := 40) hv71 (ti_rfl a2) (by rcases hc73 with rfl | rfl <;> rfl) (by omega) (by omega) (fun _ => by rcases hc73 with rfl | rfl <;> rfl) dX2_perform_165 (fun v74 v74l v74u v74w => ?_)
    refine go_invV (pc := 166) (sl := 0) (s_X2_load l (d + 2) hv71 v74) mL_X2_114 iM_X2_load sM_X2_load (hv71.sh rfl) rfl rfl rfl (Nat.le_of_ble_eq_true rfl) (show d + 2 + 1 + 1 ≤ d + 4 by omega) (show 8 + (2 + 11) + 40 * (d + 2 + 1) ≤ 40 * (d + 4) by omega) (g_c0 hv71.ln) (Nat.le_of_ble_eq_true rfl) dX2_perform_166 ?_
    intro r h75 hq _
    obtain ⟨v76, rfl, v76l, v76u, rfl⟩ := hq
    refine go_iconst (pc := 169) (v := 0) (by decide) dX2_perform_169 ?_
    refine go_invV (pc := 170) (sl := 0) (s_X2_leave_f l (d + 1) hv71 v76 0 (by rw [show (0 : Int32).toInt = 0 from (ti_c (v := 0) (a := 0) (by decide))]; omega) (by rw [show (0 : Int32).toInt = 0 from (ti_c (v := 0) (a := 0) (by decide))]; omega)) mL_X2_73 iM_X2_leave sM_X2_leave (hv71.sh rfl) rfl rfl rfl (Nat.le_of_ble_eq_true rfl) (show d + 1 + 2 + 1 ≤ d + 4 by omega) (show 8 + (6 + 11) + 40 * (d + 1 + 2) ≤ 40 * (d + 4) by omega) (g_c0 hv71.ln) (Nat.le_of_ble_eq_true rfl) dX2_perform_170 ?_
    intro r h77 hq _
    obtain ⟨rfl, hv77, f78⟩ := hq
    try rw [show (0 : Int32).toInt = 0 from (ti_c (v := 0) (a := 0) (by decide))] at f78
    have fx77 : FX KAm h h77 := FX.tr fx71 f78
    refine go_goto (pc := 173) (tgt := 254) (by decide) dX2_perform_173 ?_
    exact go_lv rfl ((key 17).2.2.2  h77 hv77 fx77 (by omega))
  exact False.elim (by omega)
set_option maxHeartbeats 4000000 in
set_option maxRecDepth 100000 in
theorem s_X2_step_f (l : Launch) (d : Nat) {P : PP} {h : HP} (hv : Iv P h)  : Mt l yX2_step cX2_step 1 none (d + 5) [.ref 64] h 0 0 (fun r h' => r = none ∧ Iv P h' ∧ (FX KAm h h')) := by
  refine Mt_iv hv (by decide) (Nat.le_of_ble_eq_true rfl) ?_
  show Go l RX2 cX2_step 1 (g_rm (d + 5) 0 0) "step" none 117 0 0 (fun _ _ => True) (fun r h' => r = none ∧ Iv P h' ∧ (FX KAm h h')) 0 0 [(0, .ref 64)] [] h
  have fx : FX KAm h h := FX.rfl
  have key : ∀ n : Nat, (∀  (hx : HP), Iv P hx → FX KAm h hx → (1 : Int) < n → Go l RX2 cX2_step 1 (g_rm (d + 5) 0 0) "step" none 117 0 0 (fun _ _ => True) (fun r h' => r = none ∧ Iv P h' ∧ (FX KAm h h')) 0 87 [] [] hx) := by
    intro n
    induction n with
    | zero => exact (by intros; omega)
    | succ n ih =>
      refine ?_
      ·
        intro hx hvx fxx hm
        exact gi_vret (pc := 87) ⟨rfl, hvx, fxx⟩ hvx dX2_step_87
  refine go_aload_n (pc := 0) rfl dX2_step_0 ?_
  refine gi_get (pc := 1) (lo := 0) (hi := 44) hv fL_X2_25 rfl (Nat.le_of_ble_eq_true rfl) rfl rfl dX2_step_1 (fun v1 v1l v1u v1w => ?_)
  refine go_bipush (pc := 4) (v := 40) (by decide) dX2_step_4 ?_
  refine gf_icmp_lt (pc := 6) (tgt := 18) (ti_rfl v1) (ti_c (v := 40) (a := 40) (by decide)) (by decide) dX2_step_6 (fun q2 => ?_) (fun q2 => ?_)
  ·
    refine go_aload_n (pc := 18) rfl dX2_step_18 ?_
    refine gi_getL (pc := 19) hv fL_X2_46 rfl (Nat.le_of_ble_eq_true rfl) rfl dX2_step_19 (fun v3 => ?_)
    refine go_aload_n (pc := 22) rfl dX2_step_22 ?_
    refine gi_get (pc := 23) (lo := 0) (hi := 44) hv fL_X2_25 rfl (Nat.le_of_ble_eq_true rfl) rfl rfl dX2_step_23 (fun v4 v4l v4u v4w => ?_)
    have v4r : v1 = h.2.1 64 4 := v1w
    have v4q : TI v4 v1.toInt := by rw [v4w.trans v4r.symm]; exact (ti_rfl v1)
    refine go_invS (pc := 26) (sl := 0) (s_X7_has_f l (d + 3) hv v3 v4) mL_X2_77 iM_X7_has rfl rfl (Nat.le_of_ble_eq_true rfl) (show d + 3 + 1 + 1 ≤ d + 5 by omega) (show 8 + (3 + 11) + 40 * (d + 3 + 1) ≤ 40 * (d + 5) by omega) (g_c0 hv.ln) (Nat.le_of_ble_eq_true rfl) dX2_step_26 ?_
    intro r h5 hq _
    obtain ⟨v7, rfl, v7l, v7u, rfl, f6⟩ := hq
    try rw [show (v4 : Int32).toInt = v1.toInt from v4q] at f6
    replace f6 : PE _ _ := f6
    refine gf_if_ne (pc := 29) (tgt := 51) (ti_rfl v7) (by decide) dX2_step_29 (fun q8 => ?_) (fun q8 => ?_)
    ·
      refine go_aload_n (pc := 51) rfl dX2_step_51 ?_
      refine gi_get (pc := 52) (lo := 0) (hi := 3000) hv fL_X2_28 rfl (Nat.le_of_ble_eq_true rfl) rfl rfl dX2_step_52 (fun v9 v9l v9u v9w => ?_)
      refine go_sipush (pc := 55) (v := 3000) (by decide) dX2_step_55 ?_
      refine gf_icmp_lt (pc := 58) (tgt := 69) (ti_rfl v9) (ti_c (v := 3000) (a := 3000) (by decide)) (by decide) dX2_step_58 (fun q10 => ?_) (fun q10 => ?_)
      ·
        refine go_aload_n (pc := 69) rfl dX2_step_69 ?_
        refine go_dup (pc := 70) rfl dX2_step_70 ?_
        refine gi_get (pc := 71) (lo := 0) (hi := 3000) hv fL_X2_28 rfl (Nat.le_of_ble_eq_true rfl) rfl rfl dX2_step_71 (fun v11 v11l v11u v11w => ?_)
        have v11r : v9 = h.2.1 64 5 := v9w
        have v11q : TI v11 v9.toInt := by rw [v11w.trans v11r.symm]; exact (ti_rfl v9)
        refine go_iconst (pc := 74) (v := 1) (by decide) dX2_step_74 ?_
        refine gf_iadd (pc := 75) v11q (ti_c (v := 1) (a := 1) (by decide)) (by omega) (by omega) dX2_step_75 (fun v12 e13 => ?_)
        refine gi_put (pc := 76) (lo := 0) (hi := 3000) hv e13 (fP_X2_28 _) rfl (Nat.le_of_ble_eq_true rfl) rfl rfl (by omega) (by omega) rfl rfl (by decide) (by decide) (by decide) (by decide) dX2_step_76 (fun h14 hv14 hv14e => ?_)
        have fx14 : FX KAm h h14 := FX.pI fx hv14e (by unfold KAm; omega)
        refine go_aload_n (pc := 79) rfl dX2_step_79 ?_
        refine go_aload_n (pc := 80) rfl dX2_step_80 ?_
        refine gi_get (pc := 81) (lo := 0) (hi := 44) hv14 fL_X2_25 rfl (Nat.le_of_ble_eq_true rfl) rfl rfl dX2_step_81 (fun v15 v15l v15u v15w => ?_)
        have v15r : v1 = h14.2.1 64 4 := (show v1 = h14.2.1 64 4 from by rw [hv14e]; exact (g_iI rfl v1w.symm).symm)
        have v15q : TI v15 v1.toInt := by rw [v15w.trans v15r.symm]; exact (ti_rfl v1)
        refine go_invV (pc := 84) (sl := 0) (s_X2_perform_f l (d + 0) hv14 v15 (by rw [show (v15 : Int32).toInt = v1.toInt from v15q]; omega) (by rw [show (v15 : Int32).toInt = v1.toInt from v15q]; omega)) mL_X2_84 iM_X2_perform sM_X2_perform (hv14.sh rfl) rfl rfl rfl (Nat.le_of_ble_eq_true rfl) (show d + 0 + 4 + 1 ≤ d + 5 by omega) (show 8 + (4 + 11) + 40 * (d + 0 + 4) ≤ 40 * (d + 5) by omega) (g_c0 hv14.ln) (Nat.le_of_ble_eq_true rfl) dX2_step_84 ?_
        intro r h16 hq _
        obtain ⟨rfl, hv16, f17⟩ := hq
        try rw [show (v15 : Int32).toInt = v1.toInt from v15q] at f17
        have fx16 : FX KAm h h16 := FX.tr fx14 f17
        exact go_lv rfl ((key 14)  h16 hv16 fx16 (by omega))
      ·
        refine go_aload_n (pc := 61) rfl dX2_step_61 ?_
        refine go_iconst (pc := 62) (v := 2) (by decide) dX2_step_62 ?_
        refine gi_put (pc := 63) (lo := -1) (hi := 3) hv (ti_c (v := 2) (a := 2) (by decide)) (fP_X2_31 _) rfl (Nat.le_of_ble_eq_true rfl) rfl rfl (by omega) (by omega) rfl rfl (by decide) (by decide) (by decide) (by decide) dX2_step_63 (fun h18 hv18 hv18e => ?_)
        have fx18 : FX KAm h h18 := FX.pI fx hv18e (by unfold KAm; omega)
        refine go_goto (pc := 66) (tgt := 87) (by decide) dX2_step_66 ?_
        exact go_lv rfl ((key 14)  h18 hv18 fx18 (by omega))
    ·
      refine go_aload_n (pc := 32) rfl dX2_step_32 ?_
      refine go_aload_n (pc := 33) rfl dX2_step_33 ?_
      refine gi_getC (pc := 34) hv fL_X2_50 rfl (Nat.le_of_ble_eq_true rfl) rfl (by decide) dX2_step_34 (fun c19 hc19 fc19 => ?_)
      refine gi_getF (pc := 37) (q := c19 + 11) hv fL_X2_81 (by rcases hc19 with rfl | rfl <;> rfl) (Nat.le_of_ble_eq_true rfl) rfl (by rcases hc19 with rfl | rfl <;> exact hv.rf (by decide)) dX2_step_37 ?_
      refine go_aload_n (pc := 40) rfl dX2_step_40 ?_
      refine gi_get (pc := 41) (lo := 0) (hi := 44) hv fL_X2_25 rfl (Nat.le_of_ble_eq_true rfl) rfl rfl dX2_step_41 (fun v20 v20l v20u v20w => ?_)
      have v20r : v1 = h.2.1 64 4 := v1w
      have v20q : TI v20 v1.toInt := by rw [v20w.trans v20r.symm]; exact (ti_rfl v1)
      refine gi_iald (pc := 44) (lo := 0) (hi := 44) (len := 40) hv v20q (by rcases hc19 with rfl | rfl <;> rfl) (by omega) (by omega) (fun _ => by rcases hc19 with rfl | rfl <;> rfl) dX2_step_44 (fun v21 v21l v21u v21w => ?_)
      refine gi_put (pc := 45) (lo := 0) (hi := 44) hv (ti_rfl v21) (fP_X2_25 _) rfl (Nat.le_of_ble_eq_true rfl) rfl rfl (by omega) (by omega) rfl rfl (by decide) (by decide) (by decide) (by decide) dX2_step_45 (fun h22 hv22 hv22e => ?_)
      have fx22 : FX KAm h h22 := FX.pI fx hv22e (by unfold KAm; omega)
      refine go_goto (pc := 48) (tgt := 87) (by decide) dX2_step_48 ?_
      exact go_lv rfl ((key 14)  h22 hv22 fx22 (by omega))
  ·
    refine go_aload_n (pc := 9) rfl dX2_step_9 ?_
    refine go_iconst (pc := 10) (v := 0) (by decide) dX2_step_10 ?_
    refine go_iconst (pc := 11) (v := 0) (by decide) dX2_step_11 ?_
    refine go_invV (pc := 12) (sl := 0) (s_X2_leave_f l (d + 2) hv 0 0 (by rw [show (0 : Int32).toInt = 0 from (ti_c (v := 0) (a := 0) (by decide))]; omega) (by rw [show (0 : Int32).toInt = 0 from (ti_c (v := 0) (a := 0) (by decide))]; omega)) mL_X2_73 iM_X2_leave sM_X2_leave (hv.sh rfl) rfl rfl rfl (Nat.le_of_ble_eq_true rfl) (show d + 2 + 2 + 1 ≤ d + 5 by omega) (show 8 + (6 + 11) + 40 * (d + 2 + 2) ≤ 40 * (d + 5) by omega) (g_c0 hv.ln) (Nat.le_of_ble_eq_true rfl) dX2_step_12 ?_
    intro r h23 hq _
    obtain ⟨rfl, hv23, f24⟩ := hq
    try rw [show (0 : Int32).toInt = 0 from (ti_c (v := 0) (a := 0) (by decide))] at f24
    try rw [show (0 : Int32).toInt = 0 from (ti_c (v := 0) (a := 0) (by decide))] at f24
    have fx23 : FX KAm h h23 := FX.tr fx f24
    refine go_goto (pc := 15) (tgt := 87) (by decide) dX2_step_15 ?_
    exact go_lv rfl ((key 14)  h23 hv23 fx23 (by omega))
set_option maxHeartbeats 4000000 in
set_option maxRecDepth 100000 in
theorem s_X2_play_f (l : Launch) (d : Nat) {P : PP} {h : HP} (hv : Iv P h) (c2 : Nat) (hc2 : c2 = 2 ∨ c2 = 18) (a3 : Int64) (a4 : Int32) (a5 : Int32) : Mt l yX2_play cX2_play 7 (some .int) (d + 6) [.ref 64, .ref c2, .long a3, .int a4, .int a5] h 0 0 (fun r h' => ∃ v : Int32, r = some (.int v) ∧ -1 ≤ v.toInt ∧ v.toInt ≤ 3 ∧ Iv P h' ∧ (FX KAm h h')) := by
  refine Mt_iv hv (by decide) (Nat.le_of_ble_eq_true rfl) ?_
  show Go l RX2 cX2_play 7 (g_rm (d + 6) 0 0) "play" (some .int) 117 0 0 (fun _ _ => True) (fun r h' => ∃ v : Int32, r = some (.int v) ∧ -1 ≤ v.toInt ∧ v.toInt ≤ 3 ∧ Iv P h' ∧ (FX KAm h h')) 0 0 [(0, .ref 64), (1, .ref c2), (2, .long a3), (4, .int a4), (5, .int a5)] [] h
  have fx : FX KAm h h := FX.rfl
  have key : ∀ n : Nat, (∀ (l6 : Int32) (hx : HP), Iv P hx → 0 ≤ l6.toInt → l6.toInt ≤ 1000000 → FX KAm h hx → (3 * (1000000 - l6.toInt) + 3 : Int) < n → Go l RX2 cX2_play 7 (g_rm (d + 6) 0 0) "play" (some .int) 117 0 0 (fun _ _ => True) (fun r h' => ∃ v : Int32, r = some (.int v) ∧ -1 ≤ v.toInt ∧ v.toInt ≤ 3 ∧ Iv P h' ∧ (FX KAm h h')) 0 55 [(0, .ref 64), (6, .int l6)] [] hx) ∧ (∀  (hx : HP), Iv P hx → FX KAm h hx → (1 : Int) < n → Go l RX2 cX2_play 7 (g_rm (d + 6) 0 0) "play" (some .int) 117 0 0 (fun _ _ => True) (fun r h' => ∃ v : Int32, r = some (.int v) ∧ -1 ≤ v.toInt ∧ v.toInt ≤ 3 ∧ Iv P h' ∧ (FX KAm h h')) 0 80 [(0, .ref 64)] [] hx) := by
    intro n
    induction n with
    | zero => exact ⟨(by intros; omega), (by intros; omega)⟩
    | succ n ih =>
      refine ⟨?_, ?_⟩
      ·
        intro l6 hx hvx l6l l6u fxx hm
        refine go_iload (pc := 55) rfl dX2_play_55 ?_
        refine go_ldc (pc := 57) kL_X2_64 dX2_play_57 ?_
        refine gf_icmp_ge (pc := 59) (tgt := 80) (ti_rfl l6) (ti_c (v := 1000000) (a := 1000000) (by decide)) (by decide) dX2_play_59 (fun q1 => ?_) (fun q1 => ?_)
        ·
          exact go_lv rfl (ih.2  hx hvx fxx (by omega))
        ·
          refine go_aload_n (pc := 62) rfl dX2_play_62 ?_
          refine gi_get (pc := 63) (lo := -1) (hi := 3) hvx fL_X2_31 rfl (Nat.le_of_ble_eq_true rfl) rfl rfl dX2_play_63 (fun v2 v2l v2u v2w => ?_)
          refine go_iconst (pc := 66) (v := 3) (by decide) dX2_play_66 ?_
          refine gf_icmp_ne (pc := 67) (tgt := 80) (ti_rfl v2) (ti_c (v := 3) (a := 3) (by decide)) (by decide) dX2_play_67 (fun q3 => ?_) (fun q3 => ?_)
          ·
            exact go_lv rfl (ih.2  hx hvx fxx (by omega))
          ·
            refine go_aload_n (pc := 70) rfl dX2_play_70 ?_
            refine go_invV (pc := 71) (sl := 0) (s_X2_step_f l (d + 0) hvx ) mL_X2_65 iM_X2_step sM_X2_step (hvx.sh rfl) rfl rfl rfl (Nat.le_of_ble_eq_true rfl) (show d + 0 + 5 + 1 ≤ d + 6 by omega) (show 8 + (1 + 11) + 40 * (d + 0 + 5) ≤ 40 * (d + 6) by omega) (g_c0 hvx.ln) (Nat.le_of_ble_eq_true rfl) dX2_play_71 ?_
            intro r h4 hq _
            obtain ⟨rfl, hv4, f5⟩ := hq
            have fx4 : FX KAm h h4 := FX.tr fxx f5
            refine gf_iinc (pc := 74) (Nat.le_of_ble_eq_true rfl) rfl (ti_rfl l6) (ti_c (by decide)) (by omega) (by omega) dX2_play_74 (fun v6 e7 => ?_)
            refine go_lv (lv2 := [(0, .ref 64), (6, .int v6)]) rfl ?_
            refine go_goto (pc := 77) (tgt := 55) (by decide) dX2_play_77 ?_
            have z8 : (v6 : Int32).toInt = (l6.toInt + 1) := e7
            exact go_lv rfl (ih.1 v6 h4 hv4 (by omega) (by omega) fx4 (by omega))
      ·
        intro hx hvx fxx hm
        refine go_aload_n (pc := 80) rfl dX2_play_80 ?_
        refine gi_get (pc := 81) (lo := -1) (hi := 3) hvx fL_X2_31 rfl (Nat.le_of_ble_eq_true rfl) rfl rfl dX2_play_81 (fun v9 v9l v9u v9w => ?_)
        exact gi_iret (pc := 84) (ti_rfl v9) ⟨_, rfl, (by rw [show (v9 : Int32).toInt = v9.toInt from (ti_rfl v9)]; omega), (by rw [show (v9 : Int32).toInt = v9.toInt from (ti_rfl v9)]; omega), hvx, fxx⟩ hvx dX2_play_84
  refine go_aload_n (pc := 0) rfl dX2_play_0 ?_
  refine go_aload_n (pc := 1) rfl dX2_play_1 ?_
  refine gi_putC (pc := 2) hv hc2 (fP_X2_50 _) rfl (Nat.le_of_ble_eq_true rfl) rfl (fun _ => rfl) (fun _ => rfl) (by decide) (by decide) (by decide) (by decide) dX2_play_2 (fun h10 hv10 hv10e => ?_)
  have fx10 : FX KAm h h10 := FX.pR fx hv10e (by unfold KAm; omega)
  refine go_aload_n (pc := 5) rfl dX2_play_5 ?_
  refine go_lload_n (pc := 6) rfl dX2_play_6 ?_
  refine gi_putL (pc := 7) hv10 (fP_X2_46 _) rfl (Nat.le_of_ble_eq_true rfl) rfl rfl rfl dX2_play_7 (fun h11 hv11 hv11e => ?_)
  have fx11 : FX KAm h h11 := FX.pL fx10 hv11e (by unfold KAm; omega)
  refine go_aload_n (pc := 10) rfl dX2_play_10 ?_
  refine gi_getF (pc := 11) (q := 65) hv11 fL_X2_9 rfl (Nat.le_of_ble_eq_true rfl) rfl (hv11.rf (by decide)) dX2_play_11 ?_
  refine go_iconst (pc := 14) (v := 0) (by decide) dX2_play_14 ?_
  refine go_invS (pc := 15) (sl := 0) (s_J7_fill_53178_at65_f l (d + 4) hv11 0) mL_X2_54 iM_J7_fill_53178 rfl rfl (Nat.le_of_ble_eq_true rfl) (show d + 4 + 1 + 1 ≤ d + 6 by omega) (show 8 + (4 + 11) + 40 * (d + 4 + 1) ≤ 40 * (d + 6) by omega) (g_c0 hv11.ln) (Nat.le_of_ble_eq_true rfl) dX2_play_15 ?_
  intro r h12 hq _
  obtain ⟨rfl, hv12, f13⟩ := hq
  try rw [show (0 : Int32).toInt = 0 from (ti_c (v := 0) (a := 0) (by decide))] at f13
  have fx12 : FX KAm h h12 := FX.tr fx11 f13
  refine go_aload_n (pc := 18) rfl dX2_play_18 ?_
  refine go_iconst (pc := 19) (v := 0) (by decide) dX2_play_19 ?_
  refine gi_put (pc := 20) (lo := 0) (hi := 30) hv12 (ti_c (v := 0) (a := 0) (by decide)) (fP_X2_21 _) rfl (Nat.le_of_ble_eq_true rfl) rfl rfl (by omega) (by omega) rfl rfl (by decide) (by decide) (by decide) (by decide) dX2_play_20 (fun h14 hv14 hv14e => ?_)
  have fx14 : FX KAm h h14 := FX.pI fx12 hv14e (by unfold KAm; omega)
  refine go_aload_n (pc := 23) rfl dX2_play_23 ?_
  refine go_iconst (pc := 24) (v := 0) (by decide) dX2_play_24 ?_
  refine gi_put (pc := 25) (lo := 0) (hi := 3000) hv14 (ti_c (v := 0) (a := 0) (by decide)) (fP_X2_28 _) rfl (Nat.le_of_ble_eq_true rfl) rfl rfl (by omega) (by omega) rfl rfl (by decide) (by decide) (by decide) (by decide) dX2_play_25 (fun h15 hv15 hv15e => ?_)
  have fx15 : FX KAm h h15 := FX.pI fx14 hv15e (by unfold KAm; omega)
  refine go_aload_n (pc := 28) rfl dX2_play_28 ?_
  refine go_iconst (pc := 29) (v := 0) (by decide) dX2_play_29 ?_
  refine gi_put (pc := 30) (lo := -2147483648) (hi := 2147483647) hv15 (ti_c (v := 0) (a := 0) (by decide)) (fP_X2_34 _) rfl (Nat.le_of_ble_eq_true rfl) rfl rfl (ti_ge (ti_c (v := 0) (a := 0) (by decide))) (ti_le2 (ti_c (v := 0) (a := 0) (by decide))) rfl rfl (by decide) (by decide) (by decide) (by decide) dX2_play_30 (fun h16 hv16 hv16e => ?_)
  have fx16 : FX KAm h h16 := FX.pI fx15 hv16e (by unfold KAm; omega)
  refine go_aload_n (pc := 33) rfl dX2_play_33 ?_
  refine go_iconst (pc := 34) (v := 0) (by decide) dX2_play_34 ?_
  refine gi_put (pc := 35) (lo := 0) (hi := 500) hv16 (ti_c (v := 0) (a := 0) (by decide)) (fP_X2_43 _) rfl (Nat.le_of_ble_eq_true rfl) rfl rfl (by omega) (by omega) rfl rfl (by decide) (by decide) (by decide) (by decide) dX2_play_35 (fun h17 hv17 hv17e => ?_)
  have fx17 : FX KAm h h17 := FX.pI fx16 hv17e (by unfold KAm; omega)
  refine go_aload_n (pc := 38) rfl dX2_play_38 ?_
  refine go_iconst (pc := 39) (v := 3) (by decide) dX2_play_39 ?_
  refine gi_put (pc := 40) (lo := -1) (hi := 3) hv17 (ti_c (v := 3) (a := 3) (by decide)) (fP_X2_31 _) rfl (Nat.le_of_ble_eq_true rfl) rfl rfl (by omega) (by omega) rfl rfl (by decide) (by decide) (by decide) (by decide) dX2_play_40 (fun h18 hv18 hv18e => ?_)
  have fx18 : FX KAm h h18 := FX.pI fx17 hv18e (by unfold KAm; omega)
  refine go_aload_n (pc := 43) rfl dX2_play_43 ?_
  refine go_iconst (pc := 44) (v := 0) (by decide) dX2_play_44 ?_
  refine go_iload (pc := 45) rfl dX2_play_45 ?_
  refine go_iload (pc := 47) rfl dX2_play_47 ?_
  refine go_invV (pc := 49) (sl := 0) (s_X2_enter_f l (d + 4) hv18 0 (by rw [show (0 : Int32).toInt = 0 from (ti_c (v := 0) (a := 0) (by decide))]; omega) (by rw [show (0 : Int32).toInt = 0 from (ti_c (v := 0) (a := 0) (by decide))]; omega) a4 a5) mL_X2_60 iM_X2_enter sM_X2_enter (hv18.sh rfl) rfl rfl rfl (Nat.le_of_ble_eq_true rfl) (show d + 4 + 1 + 1 ≤ d + 6 by omega) (show 8 + (6 + 11) + 40 * (d + 4 + 1) ≤ 40 * (d + 6) by omega) (g_c0 hv18.ln) (Nat.le_of_ble_eq_true rfl) dX2_play_49 ?_
  intro r h19 hq _
  obtain ⟨rfl, hv19, f20⟩ := hq
  try rw [show (0 : Int32).toInt = 0 from (ti_c (v := 0) (a := 0) (by decide))] at f20
  have fx19 : FX KAm h h19 := FX.tr fx18 f20
  refine go_iconst (pc := 52) (v := 0) (by decide) dX2_play_52 ?_
  refine go_istore (pc := 53) (Nat.le_of_ble_eq_true rfl) dX2_play_53 (go_lv (lv2 := [(0, .ref 64), (1, .ref c2), (2, .long a3), (4, .int a4), (5, .int a5), (6, .int 0)]) rfl ?_)
  have z21 : (0 : Int32).toInt = 0 := (ti_c (v := 0) (a := 0) (by decide))
  exact go_lv rfl ((key 3000020).1 0 h19 hv19 (by omega) (by omega) fx19 (by omega))
set_option maxHeartbeats 4000000 in
set_option maxRecDepth 100000 in
theorem s_X7_kept2_f (l : Launch) (d : Nat) {P : PP} {h : HP} (hv : Iv P h) (a2 : Int32) : Mt l yX7_kept cX7_kept 2 (some .long) (d + 7) [.ref 0, .int a2] h 0 0 (fun r h' => ∃ v : Int64, r = some (.long v) ∧ Iv P h' ∧ (FX KAc h h') ∧ (∃ h1 : HP, (st h1 = st h ∨ ∃ c, h.2.2.2 0 3 = .ref c ∧ st h1 = f_X4_prepare2 (st h) c) ∧ FX KRN h1 h')) := by
  refine Mt_iv hv (by decide) (Nat.le_of_ble_eq_true rfl) ?_
  show Go l RX7 cX7_kept 2 (g_rm (d + 7) 0 0) "kept" (some .long) 117 0 0 (fun _ _ => True) (fun r h' => ∃ v : Int64, r = some (.long v) ∧ Iv P h' ∧ (FX KAc h h') ∧ (∃ h1 : HP, (st h1 = st h ∨ ∃ c, h.2.2.2 0 3 = .ref c ∧ st h1 = f_X4_prepare2 (st h) c) ∧ FX KRN h1 h')) 0 0 [(0, .ref 0), (1, .int a2)] [] h
  have fx : FX KAc h h := FX.rfl
  refine go_aload_n (pc := 0) rfl dX7_kept_0 ?_
  refine go_iload_n (pc := 1) rfl dX7_kept_1 ?_
  refine go_invV (pc := 2) (sl := 0) (s_X7_isStatement_f l (d + 5) hv a2) mL_X7_87 iM_X7_isStatement sM_X7_isStatement (hv.sh rfl) rfl rfl rfl (Nat.le_of_ble_eq_true rfl) (show d + 5 + 1 + 1 ≤ d + 7 by omega) (show 8 + (2 + 11) + 40 * (d + 5 + 1) ≤ 40 * (d + 7) by omega) (g_c0 hv.ln) (Nat.le_of_ble_eq_true rfl) dX7_kept_2 ?_
  intro r h1 hq _
  obtain ⟨v3, rfl, v3l, v3u, rfl, f4, f2⟩ := hq
  replace f2 : PE _ _ := f2
  refine gf_if_ne (pc := 5) (tgt := 12) (ti_rfl v3) (by decide) dX7_kept_5 (fun q5 => ?_) (fun q5 => ?_)
  ·
    refine go_aload_n (pc := 12) rfl dX7_kept_12 ?_
    refine gi_getF (pc := 13) (q := 49) hv fL_X7_42 rfl (Nat.le_of_ble_eq_true rfl) rfl (hv.rf (by decide)) dX7_kept_13 ?_
    refine go_aload_n (pc := 16) rfl dX7_kept_16 ?_
    refine gi_getC (pc := 17) hv fL_X7_23 rfl (Nat.le_of_ble_eq_true rfl) rfl (by decide) dX7_kept_17 (fun c6 hc6 fc6 => ?_)
    refine go_invV (pc := 20) (sl := 0) (s_X4_prepare2_f l (d + 0) hv c6 hc6) mL_X7_113 iM_X4_prepare sM_X4_prepare (hv.sh rfl) rfl rfl rfl (Nat.le_of_ble_eq_true rfl) (show d + 0 + 6 + 1 ≤ d + 7 by omega) (show 8 + (4 + 11) + 40 * (d + 0 + 6) ≤ 40 * (d + 7) by omega) (g_c0 hv.ln) (Nat.le_of_ble_eq_true rfl) dX7_kept_20 ?_
    intro r h7 hq _
    obtain ⟨rfl, hv7, f8, f9⟩ := hq
    have fx7 : FX KAc h h7 := FX.tr fx f9
    refine go_aload_n (pc := 23) rfl dX7_kept_23 ?_
    refine gi_getF (pc := 24) (q := 49) hv7 fL_X7_42 rfl (Nat.le_of_ble_eq_true rfl) rfl (hv7.rf (by decide)) dX7_kept_24 ?_
    refine go_iload_n (pc := 27) rfl dX7_kept_27 ?_
    refine go_invV (pc := 28) (sl := 0) (s_X4_keptFor2_f l (d + 0) hv7 a2 (by rw [show (a2 : Int32).toInt = a2.toInt from (ti_rfl a2)]; omega) (by rw [show (a2 : Int32).toInt = a2.toInt from (ti_rfl a2)]; omega)) mL_X7_153 iM_X4_keptFor sM_X4_keptFor (hv7.sh rfl) rfl rfl rfl (Nat.le_of_ble_eq_true rfl) (show d + 0 + 6 + 1 ≤ d + 7 by omega) (show 8 + (2 + 11) + 40 * (d + 0 + 6) ≤ 40 * (d + 7) by omega) (g_c0 hv7.ln) (Nat.le_of_ble_eq_true rfl) dX7_kept_28 ?_
    intro r h10 hq _
    obtain ⟨v13, rfl, hv10, f11, f12⟩ := hq
    have fx10 : FX KAc h h10 := FX.tr fx7 (FX.mono (fun c j z => by unfold KAc at z; unfold KKF; omega) f12)
    exact gi_lret (pc := 31) ⟨_, rfl, hv10, fx10, ⟨h7, Or.inr ⟨c6, fc6, f8⟩, (FX.mono (fun c j z => by unfold KRN at z; unfold KKF; omega) f12)⟩⟩ hv10 dX7_kept_31
  ·
    refine go_ldc2 (pc := 8) kL_X7_140 dX7_kept_8 ?_
    exact gi_lret (pc := 11) ⟨_, rfl, hv, fx, ⟨h, Or.inl rfl, FX.rfl⟩⟩ hv dX7_kept_11
set_option maxHeartbeats 4000000 in
set_option maxRecDepth 100000 in
theorem s_X7_runKept2_f (l : Launch) (d : Nat) {P : PP} {h : HP} (hv : Iv P h) (a2 : Int32) (a3 : Int32) (a4 : Int32) : Mt l yX7_runKept cX7_runKept 4 (some .int) (d + 7) [.ref 0, .int a2, .int a3, .int a4] h 0 0 (fun r h' => ∃ v : Int32, r = some (.int v) ∧ -2147483648 ≤ v.toInt ∧ v.toInt ≤ 2147483647 ∧ Iv P h' ∧ (FX KAc h h') ∧ (∃ h1 : HP, (st h1 = st h ∨ ∃ c, h.2.2.2 0 3 = .ref c ∧ st h1 = f_X4_prepare2 (st h) c) ∧ FX KRN h1 h')) := by
  refine Mt_iv hv (by decide) (Nat.le_of_ble_eq_true rfl) ?_
  show Go l RX7 cX7_runKept 4 (g_rm (d + 7) 0 0) "runKept" (some .int) 117 0 0 (fun _ _ => True) (fun r h' => ∃ v : Int32, r = some (.int v) ∧ -2147483648 ≤ v.toInt ∧ v.toInt ≤ 2147483647 ∧ Iv P h' ∧ (FX KAc h h') ∧ (∃ h1 : HP, (st h1 = st h ∨ ∃ c, h.2.2.2 0 3 = .ref c ∧ st h1 = f_X4_prepare2 (st h) c) ∧ FX KRN h1 h')) 0 0 [(0, .ref 0), (1, .int a2), (2, .int a3), (3, .int a4)] [] h
  have fx : FX KAc h h := FX.rfl
  refine go_aload_n (pc := 0) rfl dX7_runKept_0 ?_
  refine go_iload_n (pc := 1) rfl dX7_runKept_1 ?_
  refine go_invV (pc := 2) (sl := 0) (s_X7_isStatement_f l (d + 5) hv a2) mL_X7_87 iM_X7_isStatement sM_X7_isStatement (hv.sh rfl) rfl rfl rfl (Nat.le_of_ble_eq_true rfl) (show d + 5 + 1 + 1 ≤ d + 7 by omega) (show 8 + (2 + 11) + 40 * (d + 5 + 1) ≤ 40 * (d + 7) by omega) (g_c0 hv.ln) (Nat.le_of_ble_eq_true rfl) dX7_runKept_2 ?_
  intro r h1 hq _
  obtain ⟨v3, rfl, v3l, v3u, rfl, f4, f2⟩ := hq
  replace f2 : PE _ _ := f2
  refine gf_if_ne (pc := 5) (tgt := 10) (ti_rfl v3) (by decide) dX7_runKept_5 (fun q5 => ?_) (fun q5 => ?_)
  ·
    refine go_aload_n (pc := 10) rfl dX7_runKept_10 ?_
    refine gi_getF (pc := 11) (q := 49) hv fL_X7_42 rfl (Nat.le_of_ble_eq_true rfl) rfl (hv.rf (by decide)) dX7_runKept_11 ?_
    refine go_aload_n (pc := 14) rfl dX7_runKept_14 ?_
    refine gi_getC (pc := 15) hv fL_X7_23 rfl (Nat.le_of_ble_eq_true rfl) rfl (by decide) dX7_runKept_15 (fun c6 hc6 fc6 => ?_)
    refine go_invV (pc := 18) (sl := 0) (s_X4_prepare2_f l (d + 0) hv c6 hc6) mL_X7_113 iM_X4_prepare sM_X4_prepare (hv.sh rfl) rfl rfl rfl (Nat.le_of_ble_eq_true rfl) (show d + 0 + 6 + 1 ≤ d + 7 by omega) (show 8 + (4 + 11) + 40 * (d + 0 + 6) ≤ 40 * (d + 7) by omega) (g_c0 hv.ln) (Nat.le_of_ble_eq_true rfl) dX7_runKept_18 ?_
    intro r h7 hq _
    obtain ⟨rfl, hv7, f8, f9⟩ := hq
    have fx7 : FX KAc h h7 := FX.tr fx f9
    refine go_aload_n (pc := 21) rfl dX7_runKept_21 ?_
    refine gi_getF (pc := 22) (q := 64) hv7 fL_X7_49 rfl (Nat.le_of_ble_eq_true rfl) rfl (hv7.rf (by decide)) dX7_runKept_22 ?_
    refine go_aload_n (pc := 25) rfl dX7_runKept_25 ?_
    refine gi_getC (pc := 26) hv7 fL_X7_23 rfl (Nat.le_of_ble_eq_true rfl) rfl (by decide) dX7_runKept_26 (fun c10 hc10 fc10 => ?_)
    refine go_aload_n (pc := 29) rfl dX7_runKept_29 ?_
    refine gi_getF (pc := 30) (q := 49) hv7 fL_X7_42 rfl (Nat.le_of_ble_eq_true rfl) rfl (hv7.rf (by decide)) dX7_runKept_30 ?_
    refine go_iload_n (pc := 33) rfl dX7_runKept_33 ?_
    refine go_invV (pc := 34) (sl := 0) (s_X4_keptFor2_f l (d + 0) hv7 a2 (by rw [show (a2 : Int32).toInt = a2.toInt from (ti_rfl a2)]; omega) (by rw [show (a2 : Int32).toInt = a2.toInt from (ti_rfl a2)]; omega)) mL_X7_153 iM_X4_keptFor sM_X4_keptFor (hv7.sh rfl) rfl rfl rfl (Nat.le_of_ble_eq_true rfl) (show d + 0 + 6 + 1 ≤ d + 7 by omega) (show 8 + (2 + 11) + 40 * (d + 0 + 6) ≤ 40 * (d + 7) by omega) (g_c0 hv7.ln) (Nat.le_of_ble_eq_true rfl) dX7_runKept_34 ?_
    intro r h11 hq _
    obtain ⟨v14, rfl, hv11, f12, f13⟩ := hq
    have fx11 : FX KAc h h11 := FX.tr fx7 (FX.mono (fun c j z => by unfold KAc at z; unfold KKF; omega) f13)
    refine go_iload_n (pc := 37) rfl dX7_runKept_37 ?_
    refine go_iload_n (pc := 38) rfl dX7_runKept_38 ?_
    refine go_invV (pc := 39) (sl := 0) (s_X2_play_f l (d + 0) hv11 c10 hc10 v14 a3 a4) mL_X7_158 iM_X2_play sM_X2_play (hv11.sh rfl) rfl rfl rfl (Nat.le_of_ble_eq_true rfl) (show d + 0 + 6 + 1 ≤ d + 7 by omega) (show 8 + (7 + 11) + 40 * (d + 0 + 6) ≤ 40 * (d + 7) by omega) (g_c0 hv11.ln) (Nat.le_of_ble_eq_true rfl) dX7_runKept_39 ?_
    intro r h15 hq _
    obtain ⟨v17, rfl, v17l, v17u, hv15, f16⟩ := hq
    have fx15 : FX KAc h h15 := FX.tr fx11 (FX.mono (fun c j z => by unfold KAc at z; unfold KAm; omega) f16)
    exact gi_iret (pc := 42) (ti_rfl v17) ⟨_, rfl, (ti_lo _), (ti_hi _), hv15, fx15, ⟨h7, Or.inr ⟨c6, fc6, f8⟩, (FX.tr (FX.mono (fun c j z => by unfold KRN at z; unfold KKF; omega) f13) (FX.mono (fun c j z => by unfold KRN at z; unfold KAm; omega) f16))⟩⟩ hv15 dX7_runKept_42
  ·
    refine go_iconst (pc := 8) (v := (-1)) (by decide) dX7_runKept_8 ?_
    exact gi_iret (pc := 9) (ti_c (v := (-1)) (a := (-1)) (by decide)) ⟨_, rfl, (ti_lo _), (ti_hi _), hv, fx, ⟨h, Or.inl rfl, FX.rfl⟩⟩ hv dX7_runKept_9

