def f_X8_entryOf_b (g_X8_firstOf : ST → Int → Int) (s : ST) (a2 : Int) : Int :=
  bd (s.1 77 (a2).toNat) fun v1 => if ¬ v1 = 6 then (bd (s.1 78 (a2).toNat) fun v5 => v5) else (bd (s.1 85 (a2).toNat) fun v8 => bd (g_X8_firstOf s v8) fun v14 => v14)
set_option maxHeartbeats 4000000 in
set_option maxRecDepth 100000 in
theorem s_X8_entryOf_b_f (l : Launch) (d : Nat) {n : Nat} (g_X8_firstOf : ST → Int → Int) (ihF : ∀ {P : PP} {h : HP} (_ : Iv P h) (a2 : Int32) (a2l : 0 ≤ a2.toInt) (a2u : a2.toInt ≤ 559) (ht : TR h.2.1 (h.2.1 70 6).toInt ∧ CN h.2.1 (h.2.1 70 6).toInt (130 * (h.2.1 70 6).toInt) 0) (hb : BB h.2.1 (h.2.1 70 6).toInt a2.toInt) (hm : (V h.2.1 92 a2.toInt = -1 → 4 * V h.2.1 73 (h.2.1 70 6).toInt + 5 ≤ (n : Int)) ∧ (0 ≤ V h.2.1 92 a2.toInt → 4 * (130 * (h.2.1 70 6).toInt + V h.2.1 73 (h.2.1 70 6).toInt - V h.2.1 92 a2.toInt) + 2 * V h.2.1 80 (V h.2.1 92 a2.toInt) + 3 ≤ (n : Int))), Mt l yX8_firstOf cX8_firstOf 2 (some .int) (d + 0) [.ref 70, .int a2] h 0 0 (fun r h' => ∃ v : Int32, r = some (.int v) ∧ -1 ≤ v.toInt ∧ v.toInt ≤ 39 ∧ h = h' ∧ (v.toInt < V h.2.1 75 (h.2.1 70 6).toInt) ∧ (v.toInt = g_X8_firstOf (st h) a2.toInt))) {P : PP} {h : HP} (hv : Iv P h) (a2 : Int32) (a2l : 0 ≤ a2.toInt) (a2u : a2.toInt ≤ 259) (ht : TR h.2.1 (h.2.1 70 6).toInt ∧ CN h.2.1 (h.2.1 70 6).toInt (130 * (h.2.1 70 6).toInt) 0) (hi : II h.2.1 (h.2.1 70 6).toInt a2.toInt) (hm : 4 * (130 * (h.2.1 70 6).toInt + V h.2.1 73 (h.2.1 70 6).toInt - a2.toInt) + 2 * V h.2.1 80 a2.toInt + 4 ≤ ((n + 1 : Nat) : Int)) : Mt l yX8_entryOf cX8_entryOf 2 (some .int) (d + 1) [.ref 70, .int a2] h 0 0 (fun r h' => ∃ v : Int32, r = some (.int v) ∧ -1 ≤ v.toInt ∧ v.toInt ≤ 39 ∧ h = h' ∧ (v.toInt < V h.2.1 75 (h.2.1 70 6).toInt) ∧ (v.toInt = f_X8_entryOf_b g_X8_firstOf (st h) a2.toInt)) := by
  refine Mt_iv hv (by decide) (Nat.le_of_ble_eq_true rfl) ?_
  show Go l RX8 cX8_entryOf 2 (g_rm (d + 1) 0 0) "entryOf" (some .int) 117 0 0 (fun _ _ => True) (fun r h' => ∃ v : Int32, r = some (.int v) ∧ -1 ≤ v.toInt ∧ v.toInt ≤ 39 ∧ h = h' ∧ (v.toInt < V h.2.1 75 (h.2.1 70 6).toInt) ∧ (v.toInt = f_X8_entryOf_b g_X8_firstOf (st h) a2.toInt)) 0 0 [(0, .ref 70), (1, .int a2)] [] h
  obtain ⟨S, hS⟩ : ∃ S : Int, S = (h.2.1 70 6).toInt := ⟨_, rfl⟩
  have S0 : 0 ≤ S := by rw [hS]; exact (hv.2.1 70 6).1
  have S1 : S ≤ 1 := by rw [hS]; exact (hv.2.1 70 6).2
  rw [← hS] at ht
  rw [← hS] at hi
  rw [← hS] at hm
  obtain ⟨fin, kf⟩ : ∃ z, z = f_X8_entryOf_b g_X8_firstOf (st h) a2.toInt := ⟨_, _root_.rfl⟩
  have k0 := kf
  unfold f_X8_entryOf_b at k0
  have tp := ht.1.1
  refine go_aload_n (pc := 0) rfl dX8_entryOf_0 ?_
  refine gi_getF (pc := 1) (q := 77) hv fL_X8_29 rfl (Nat.le_of_ble_eq_true rfl) rfl (hv.rf (by decide)) dX8_entryOf_1 ?_
  refine go_iload_n (pc := 4) rfl dX8_entryOf_4 ?_
  refine gi_iald (pc := 5) (lo := 0) (hi := 6) (len := 260) hv (ti_rfl a2) rfl (by omega) (by omega) (fun _ => rfl) dX8_entryOf_5 (fun v1 v1l v1u v1w => ?_)
  have k2 := bd_e k0 (congrArg Int32.toInt v1w.symm)
  have v1V : v1.toInt = V h.2.1 77 a2.toInt := by rw [v1w]; rfl
  refine go_bipush (pc := 6) (v := 6) (by decide) dX8_entryOf_6 ?_
  refine gf_icmp_ne (pc := 8) (tgt := 24) (ti_rfl v1) (ti_c (v := 6) (a := 6) (by decide)) (by decide) dX8_entryOf_8 (fun q3 => ?_) (fun q3 => ?_)
  ·
    have k4 := if_t k2 q3
    refine go_aload_n (pc := 24) rfl dX8_entryOf_24 ?_
    refine gi_getF (pc := 25) (q := 78) hv fL_X8_32 rfl (Nat.le_of_ble_eq_true rfl) rfl (hv.rf (by decide)) dX8_entryOf_25 ?_
    refine go_iload_n (pc := 28) rfl dX8_entryOf_28 ?_
    refine gi_iald (pc := 29) (lo := -1) (hi := 39) (len := 260) hv (ti_rfl a2) rfl (by omega) (by omega) (fun _ => rfl) dX8_entryOf_29 (fun v5 v5l v5u v5w => ?_)
    have k6 := bd_e k4 (congrArg Int32.toInt v5w.symm)
    have v5V : v5.toInt = V h.2.1 78 a2.toInt := by rw [v5w]; rfl
    have t3 := (ht.1.2.2.2.1 a2.toInt hi).1 (by omega)
    exact gi_iret (pc := 30) (ti_rfl v5) ⟨_, rfl, (by rw [show (v5 : Int32).toInt = v5.toInt from (ti_rfl v5)]; omega), (by rw [show (v5 : Int32).toInt = v5.toInt from (ti_rfl v5)]; omega), rfl, (by rw [← hS]; omega), (k6.symm.trans kf)⟩ hv dX8_entryOf_30
  ·
    have k7 := if_f k2 (fun z => z q3)
    refine go_aload_n (pc := 11) rfl dX8_entryOf_11 ?_
    refine go_aload_n (pc := 12) rfl dX8_entryOf_12 ?_
    refine gi_getF (pc := 13) (q := 85) hv fL_X8_53 rfl (Nat.le_of_ble_eq_true rfl) rfl (hv.rf (by decide)) dX8_entryOf_13 ?_
    refine go_iload_n (pc := 16) rfl dX8_entryOf_16 ?_
    refine gi_iald (pc := 17) (lo := -1) (hi := 559) (len := 260) hv (ti_rfl a2) rfl (by omega) (by omega) (fun _ => rfl) dX8_entryOf_17 (fun v8 v8l v8u v8w => ?_)
    have k9 := bd_e k7 (congrArg Int32.toInt v8w.symm)
    have v8V : v8.toInt = V h.2.1 85 a2.toInt := by rw [v8w]; rfl
    have cc := (ht.2 a2.toInt hi.1 hi.2).2
    have b0 := (cc.1 (by omega)).2.2.1
    have t4 := (ht.1.2.2.2.2.1 a2.toInt hi).1
    rcases t4 with t4 | t4
    · exact False.elim (by omega)
    have sM10 : (h.2.1 70 6).toInt = S := by rw [hv.fy (j := 6) (by omega), ← hv.fy (j := 6) (by omega)]; exact hS.symm
    refine go_invV (pc := 18) (sl := 0) (ihF hv v8 (by rw [show (v8 : Int32).toInt = v8.toInt from (ti_rfl v8)]; omega) (by rw [show (v8 : Int32).toInt = v8.toInt from (ti_rfl v8)]; omega) (by rw [sM10]; exact ht) (by rw [sM10]; exact (by rw [v8V]; exact t4.1)) (by rw [sM10]; exact (by rw [v8V, t4.2]; exact ⟨fun q => by omega, fun _ => by omega⟩))) mL_X8_253 iM_X8_firstOf sM_X8_firstOf (hv.sh rfl) rfl rfl rfl (Nat.le_of_ble_eq_true rfl) (show d + 0 + 1 ≤ d + 1 by omega) (show 8 + (2 + 11) + 40 * (d + 0) ≤ 40 * (d + 1) by omega) (g_c0 hv.ln) (Nat.le_of_ble_eq_true rfl) dX8_entryOf_18 ?_
    intro r h11 hq _
    obtain ⟨v14, rfl, v14l, v14u, rfl, f12, f13⟩ := hq
    rw [sM10] at f12
    replace f13 : PE _ _ := f13
    have k15 := bd_e k9 f13.symm
    refine go_goto (pc := 21) (tgt := 30) (by decide) dX8_entryOf_21 ?_
    exact gi_iret (pc := 30) (ti_rfl v14) ⟨_, rfl, (by rw [show (v14 : Int32).toInt = v14.toInt from (ti_rfl v14)]; omega), (by rw [show (v14 : Int32).toInt = v14.toInt from (ti_rfl v14)]; omega), rfl, (by rw [← hS]; omega), (k15.symm.trans kf)⟩ hv dX8_entryOf_30
def f_X8_firstOf_b (g_X8_endOf : ST → Int → Int) (g_X8_entryOf : ST → Int → Int) (s : ST) (a2 : Int) : Int :=
  bd (s.1 90 (a2).toNat) fun v1 => if ¬ v1 = (-1) then (bd (s.1 90 (a2).toNat) fun v5 => bd (g_X8_entryOf s v5) fun v11 => v11) else (bd (g_X8_endOf s a2) fun v18 => v18)
set_option maxHeartbeats 4000000 in
set_option maxRecDepth 100000 in
theorem s_X8_firstOf_b_f (l : Launch) (d : Nat) {n : Nat} (g_X8_endOf : ST → Int → Int) (g_X8_entryOf : ST → Int → Int) (ihN : ∀ {P : PP} {h : HP} (_ : Iv P h) (a2 : Int32) (a2l : 0 ≤ a2.toInt) (a2u : a2.toInt ≤ 559) (ht : TR h.2.1 (h.2.1 70 6).toInt ∧ CN h.2.1 (h.2.1 70 6).toInt (130 * (h.2.1 70 6).toInt) 0) (hb : BB h.2.1 (h.2.1 70 6).toInt a2.toInt) (x : Int) (hx : (V h.2.1 92 a2.toInt = -1 ∧ 1 ≤ (n : Int)) ∨ (XC h.2.1 (h.2.1 70 6).toInt (V h.2.1 92 a2.toInt) x ∧ 4 * (130 * (h.2.1 70 6).toInt + V h.2.1 73 (h.2.1 70 6).toInt - x) + 2 * V h.2.1 80 (V h.2.1 92 a2.toInt) + 2 ≤ (n : Int))), Mt l yX8_endOf cX8_endOf 2 (some .int) (d + 0) [.ref 70, .int a2] h 0 0 (fun r h' => ∃ v : Int32, r = some (.int v) ∧ -1 ≤ v.toInt ∧ v.toInt ≤ 39 ∧ h = h' ∧ (v.toInt < V h.2.1 75 (h.2.1 70 6).toInt) ∧ (v.toInt = g_X8_endOf (st h) a2.toInt))) (ihE : ∀ {P : PP} {h : HP} (_ : Iv P h) (a2 : Int32) (a2l : 0 ≤ a2.toInt) (a2u : a2.toInt ≤ 259) (ht : TR h.2.1 (h.2.1 70 6).toInt ∧ CN h.2.1 (h.2.1 70 6).toInt (130 * (h.2.1 70 6).toInt) 0) (hi : II h.2.1 (h.2.1 70 6).toInt a2.toInt) (hm : 4 * (130 * (h.2.1 70 6).toInt + V h.2.1 73 (h.2.1 70 6).toInt - a2.toInt) + 2 * V h.2.1 80 a2.toInt + 4 ≤ (n : Int)), Mt l yX8_entryOf cX8_entryOf 2 (some .int) (d + 0) [.ref 70, .int a2] h 0 0 (fun r h' => ∃ v : Int32, r = some (.int v) ∧ -1 ≤ v.toInt ∧ v.toInt ≤ 39 ∧ h = h' ∧ (v.toInt < V h.2.1 75 (h.2.1 70 6).toInt) ∧ (v.toInt = g_X8_entryOf (st h) a2.toInt))) {P : PP} {h : HP} (hv : Iv P h) (a2 : Int32) (a2l : 0 ≤ a2.toInt) (a2u : a2.toInt ≤ 559) (ht : TR h.2.1 (h.2.1 70 6).toInt ∧ CN h.2.1 (h.2.1 70 6).toInt (130 * (h.2.1 70 6).toInt) 0) (hb : BB h.2.1 (h.2.1 70 6).toInt a2.toInt) (hm : (V h.2.1 92 a2.toInt = -1 → 4 * V h.2.1 73 (h.2.1 70 6).toInt + 5 ≤ ((n + 1 : Nat) : Int)) ∧ (0 ≤ V h.2.1 92 a2.toInt → 4 * (130 * (h.2.1 70 6).toInt + V h.2.1 73 (h.2.1 70 6).toInt - V h.2.1 92 a2.toInt) + 2 * V h.2.1 80 (V h.2.1 92 a2.toInt) + 3 ≤ ((n + 1 : Nat) : Int))) : Mt l yX8_firstOf cX8_firstOf 2 (some .int) (d + 1) [.ref 70, .int a2] h 0 0 (fun r h' => ∃ v : Int32, r = some (.int v) ∧ -1 ≤ v.toInt ∧ v.toInt ≤ 39 ∧ h = h' ∧ (v.toInt < V h.2.1 75 (h.2.1 70 6).toInt) ∧ (v.toInt = f_X8_firstOf_b g_X8_endOf g_X8_entryOf (st h) a2.toInt)) := by
  refine Mt_iv hv (by decide) (Nat.le_of_ble_eq_true rfl) ?_
  show Go l RX8 cX8_firstOf 2 (g_rm (d + 1) 0 0) "firstOf" (some .int) 117 0 0 (fun _ _ => True) (fun r h' => ∃ v : Int32, r = some (.int v) ∧ -1 ≤ v.toInt ∧ v.toInt ≤ 39 ∧ h = h' ∧ (v.toInt < V h.2.1 75 (h.2.1 70 6).toInt) ∧ (v.toInt = f_X8_firstOf_b g_X8_endOf g_X8_entryOf (st h) a2.toInt)) 0 0 [(0, .ref 70), (1, .int a2)] [] h
  obtain ⟨S, hS⟩ : ∃ S : Int, S = (h.2.1 70 6).toInt := ⟨_, rfl⟩
  have S0 : 0 ≤ S := by rw [hS]; exact (hv.2.1 70 6).1
  have S1 : S ≤ 1 := by rw [hS]; exact (hv.2.1 70 6).2
  rw [← hS] at ht
  rw [← hS] at hb
  rw [← hS] at hm
  obtain ⟨fin, kf⟩ : ∃ z, z = f_X8_firstOf_b g_X8_endOf g_X8_entryOf (st h) a2.toInt := ⟨_, _root_.rfl⟩
  have k0 := kf
  unfold f_X8_firstOf_b at k0
  have tp := ht.1.1
  refine go_aload_n (pc := 0) rfl dX8_firstOf_0 ?_
  refine gi_getF (pc := 1) (q := 90) hv fL_X8_68 rfl (Nat.le_of_ble_eq_true rfl) rfl (hv.rf (by decide)) dX8_firstOf_1 ?_
  refine go_iload_n (pc := 4) rfl dX8_firstOf_4 ?_
  refine gi_iald (pc := 5) (lo := -1) (hi := 259) (len := 560) hv (ti_rfl a2) rfl (by omega) (by omega) (fun _ => rfl) dX8_firstOf_5 (fun v1 v1l v1u v1w => ?_)
  have k2 := bd_e k0 (congrArg Int32.toInt v1w.symm)
  have v1V : v1.toInt = V h.2.1 90 a2.toInt := by rw [v1w]; rfl
  refine go_iconst (pc := 6) (v := (-1)) (by decide) dX8_firstOf_6 ?_
  refine gf_icmp_ne (pc := 7) (tgt := 18) (ti_rfl v1) (ti_c (v := (-1)) (a := (-1)) (by decide)) (by decide) dX8_firstOf_7 (fun q3 => ?_) (fun q3 => ?_)
  ·
    have k4 := if_t k2 q3
    refine go_aload_n (pc := 18) rfl dX8_firstOf_18 ?_
    refine go_aload_n (pc := 19) rfl dX8_firstOf_19 ?_
    refine gi_getF (pc := 20) (q := 90) hv fL_X8_68 rfl (Nat.le_of_ble_eq_true rfl) rfl (hv.rf (by decide)) dX8_firstOf_20 ?_
    refine go_iload_n (pc := 23) rfl dX8_firstOf_23 ?_
    refine gi_iald (pc := 24) (lo := -1) (hi := 259) (len := 560) hv (ti_rfl a2) rfl (by omega) (by omega) (fun _ => rfl) dX8_firstOf_24 (fun v5 v5l v5u v5w => ?_)
    have k6 := bd_e k4 (congrArg Int32.toInt v5w.symm)
    have v5V : v5.toInt = V h.2.1 90 a2.toInt := by rw [v5w]; rfl
    have t5 := (ht.1.2.2.2.2.2.1 a2.toInt hb).1
    rcases t5 with t5 | t5
    · exact False.elim (by omega)
    have t2 := (ht.1.2.2.1 _ t5.1).2
    rw [t5.2] at t2
    have f1 := t5.1.1
    have f2 := t5.1.2
    rw [← v5V] at t2 f1 f2
    have sM7 : (h.2.1 70 6).toInt = S := by rw [hv.fy (j := 6) (by omega), ← hv.fy (j := 6) (by omega)]; exact hS.symm
    refine go_invV (pc := 25) (sl := 0) (ihE hv v5 (by rw [show (v5 : Int32).toInt = v5.toInt from (ti_rfl v5)]; omega) (by rw [show (v5 : Int32).toInt = v5.toInt from (ti_rfl v5)]; omega) (by rw [sM7]; exact ht) (by rw [sM7]; exact (by rw [v5V]; exact t5.1)) (by rw [sM7]; exact (by rcases t2 with z | z; (have := hm.1 z.1; omega); (have := hm.2 (by omega); omega)))) mL_X8_259 iM_X8_entryOf sM_X8_entryOf (hv.sh rfl) rfl rfl rfl (Nat.le_of_ble_eq_true rfl) (show d + 0 + 1 ≤ d + 1 by omega) (show 8 + (2 + 11) + 40 * (d + 0) ≤ 40 * (d + 1) by omega) (g_c0 hv.ln) (Nat.le_of_ble_eq_true rfl) dX8_firstOf_25 ?_
    intro r h8 hq _
    obtain ⟨v11, rfl, v11l, v11u, rfl, f9, f10⟩ := hq
    rw [sM7] at f9
    replace f10 : PE _ _ := f10
    have k12 := bd_e k6 f10.symm
    exact gi_iret (pc := 28) (ti_rfl v11) ⟨_, rfl, (by rw [show (v11 : Int32).toInt = v11.toInt from (ti_rfl v11)]; omega), (by rw [show (v11 : Int32).toInt = v11.toInt from (ti_rfl v11)]; omega), rfl, (by rw [← hS]; omega), (k12.symm.trans kf)⟩ hv dX8_firstOf_28
  ·
    have k13 := if_f k2 (fun z => z q3)
    refine go_aload_n (pc := 10) rfl dX8_firstOf_10 ?_
    refine go_iload_n (pc := 11) rfl dX8_firstOf_11 ?_
    have t5 := (ht.1.2.2.2.2.2.1 a2.toInt hb).2.2.1
    have sM14 : (h.2.1 70 6).toInt = S := by rw [hv.fy (j := 6) (by omega), ← hv.fy (j := 6) (by omega)]; exact hS.symm
    refine go_invV (pc := 12) (sl := 0) (ihN hv a2 (by rw [show (a2 : Int32).toInt = a2.toInt from (ti_rfl a2)]; omega) (by rw [show (a2 : Int32).toInt = a2.toInt from (ti_rfl a2)]; omega) (by rw [sM14]; exact ht) (by rw [sM14]; exact hb) (V h.2.1 92 a2.toInt) (by rw [sM14]; exact (by rcases t5 with z | z; (exact Or.inl ⟨z, by have := hm.1 z; omega⟩); (exact Or.inr ⟨XC.self z, by have z1 := z.1; have := hm.2 (by omega); omega⟩)))) mL_X8_256 iM_X8_endOf sM_X8_endOf (hv.sh rfl) rfl rfl rfl (Nat.le_of_ble_eq_true rfl) (show d + 0 + 1 ≤ d + 1 by omega) (show 8 + (2 + 11) + 40 * (d + 0) ≤ 40 * (d + 1) by omega) (g_c0 hv.ln) (Nat.le_of_ble_eq_true rfl) dX8_firstOf_12 ?_
    intro r h15 hq _
    obtain ⟨v18, rfl, v18l, v18u, rfl, f16, f17⟩ := hq
    rw [sM14] at f16
    replace f17 : PE _ _ := f17
    have k19 := bd_e k13 f17.symm
    refine go_goto (pc := 15) (tgt := 28) (by decide) dX8_firstOf_15 ?_
    exact gi_iret (pc := 28) (ti_rfl v18) ⟨_, rfl, (by rw [show (v18 : Int32).toInt = v18.toInt from (ti_rfl v18)]; omega), (by rw [show (v18 : Int32).toInt = v18.toInt from (ti_rfl v18)]; omega), rfl, (by rw [← hS]; omega), (k19.symm.trans kf)⟩ hv dX8_firstOf_28
def f_X8_endOf_b (g_X8_behind : ST → Int → Int) (s : ST) (a2 : Int) : Int :=
  bd (s.1 92 (a2).toNat) fun v1 => if ¬ v1 = (-1) then (bd (s.1 92 (a2).toNat) fun v5 => bd (s.1 77 (v5).toNat) fun v7 => if ¬ v7 = 3 then (bd (s.1 92 (a2).toNat) fun v11 => bd (g_X8_behind s v11) fun v17 => v17) else (bd (s.1 92 (a2).toNat) fun v20 => bd (s.1 78 (v20).toNat) fun v22 => v22)) else ((-1))
set_option maxHeartbeats 4000000 in
set_option maxRecDepth 100000 in
theorem s_X8_endOf_b_f (l : Launch) (d : Nat) {n : Nat} (g_X8_behind : ST → Int → Int) (ihB : ∀ {P : PP} {h : HP} (_ : Iv P h) (a2 : Int32) (a2l : 0 ≤ a2.toInt) (a2u : a2.toInt ≤ 259) (ht : TR h.2.1 (h.2.1 70 6).toInt ∧ CN h.2.1 (h.2.1 70 6).toInt (130 * (h.2.1 70 6).toInt) 0) (hi : II h.2.1 (h.2.1 70 6).toInt a2.toInt) (x : Int) (hx : XC h.2.1 (h.2.1 70 6).toInt a2.toInt x ∧ 4 * (130 * (h.2.1 70 6).toInt + V h.2.1 73 (h.2.1 70 6).toInt - x) + 2 * V h.2.1 80 a2.toInt + 1 ≤ (n : Int)), Mt l yX8_behind cX8_behind 2 (some .int) (d + 0) [.ref 70, .int a2] h 0 0 (fun r h' => ∃ v : Int32, r = some (.int v) ∧ -1 ≤ v.toInt ∧ v.toInt ≤ 39 ∧ h = h' ∧ (v.toInt < V h.2.1 75 (h.2.1 70 6).toInt) ∧ (v.toInt = g_X8_behind (st h) a2.toInt))) {P : PP} {h : HP} (hv : Iv P h) (a2 : Int32) (a2l : 0 ≤ a2.toInt) (a2u : a2.toInt ≤ 559) (ht : TR h.2.1 (h.2.1 70 6).toInt ∧ CN h.2.1 (h.2.1 70 6).toInt (130 * (h.2.1 70 6).toInt) 0) (hb : BB h.2.1 (h.2.1 70 6).toInt a2.toInt) (x : Int) (hx : (V h.2.1 92 a2.toInt = -1 ∧ 1 ≤ ((n + 1 : Nat) : Int)) ∨ (XC h.2.1 (h.2.1 70 6).toInt (V h.2.1 92 a2.toInt) x ∧ 4 * (130 * (h.2.1 70 6).toInt + V h.2.1 73 (h.2.1 70 6).toInt - x) + 2 * V h.2.1 80 (V h.2.1 92 a2.toInt) + 2 ≤ ((n + 1 : Nat) : Int))) : Mt l yX8_endOf cX8_endOf 2 (some .int) (d + 1) [.ref 70, .int a2] h 0 0 (fun r h' => ∃ v : Int32, r = some (.int v) ∧ -1 ≤ v.toInt ∧ v.toInt ≤ 39 ∧ h = h' ∧ (v.toInt < V h.2.1 75 (h.2.1 70 6).toInt) ∧ (v.toInt = f_X8_endOf_b g_X8_behind (st h) a2.toInt)) := by
  refine Mt_iv hv (by decide) (Nat.le_of_ble_eq_true rfl) ?_
  show Go l RX8 cX8_endOf 2 (g_rm (d + 1) 0 0) "endOf" (some .int) 117 0 0 (fun _ _ => True) (fun r h' => ∃ v : Int32, r = some (.int v) ∧ -1 ≤ v.toInt ∧ v.toInt ≤ 39 ∧ h = h' ∧ (v.toInt < V h.2.1 75 (h.2.1 70 6).toInt) ∧ (v.toInt = f_X8_endOf_b g_X8_behind (st h) a2.toInt)) 0 0 [(0, .ref 70), (1, .int a2)] [] h
  obtain ⟨S, hS⟩ : ∃ S : Int, S = (h.2.1 70 6).toInt := ⟨_, rfl⟩
  have S0 : 0 ≤ S := by rw [hS]; exact (hv.2.1 70 6).1
  have S1 : S ≤ 1 := by rw [hS]; exact (hv.2.1 70 6).2
  rw [← hS] at ht
  rw [← hS] at hb
  rw [← hS] at hx
  obtain ⟨fin, kf⟩ : ∃ z, z = f_X8_endOf_b g_X8_behind (st h) a2.toInt := ⟨_, _root_.rfl⟩
  have k0 := kf
  unfold f_X8_endOf_b at k0
  have tp := ht.1.1
  refine go_aload_n (pc := 0) rfl dX8_endOf_0 ?_
  refine gi_getF (pc := 1) (q := 92) hv fL_X8_74 rfl (Nat.le_of_ble_eq_true rfl) rfl (hv.rf (by decide)) dX8_endOf_1 ?_
  refine go_iload_n (pc := 4) rfl dX8_endOf_4 ?_
  refine gi_iald (pc := 5) (lo := -1) (hi := 259) (len := 560) hv (ti_rfl a2) rfl (by omega) (by omega) (fun _ => rfl) dX8_endOf_5 (fun v1 v1l v1u v1w => ?_)
  have k2 := bd_e k0 (congrArg Int32.toInt v1w.symm)
  have v1V : v1.toInt = V h.2.1 92 a2.toInt := by rw [v1w]; rfl
  refine go_iconst (pc := 6) (v := (-1)) (by decide) dX8_endOf_6 ?_
  refine gf_icmp_ne (pc := 7) (tgt := 14) (ti_rfl v1) (ti_c (v := (-1)) (a := (-1)) (by decide)) (by decide) dX8_endOf_7 (fun q3 => ?_) (fun q3 => ?_)
  ·
    have k4 := if_t k2 q3
    refine go_aload_n (pc := 14) rfl dX8_endOf_14 ?_
    refine gi_getF (pc := 15) (q := 77) hv fL_X8_29 rfl (Nat.le_of_ble_eq_true rfl) rfl (hv.rf (by decide)) dX8_endOf_15 ?_
    refine go_aload_n (pc := 18) rfl dX8_endOf_18 ?_
    refine gi_getF (pc := 19) (q := 92) hv fL_X8_74 rfl (Nat.le_of_ble_eq_true rfl) rfl (hv.rf (by decide)) dX8_endOf_19 ?_
    refine go_iload_n (pc := 22) rfl dX8_endOf_22 ?_
    refine gi_iald (pc := 23) (lo := -1) (hi := 259) (len := 560) hv (ti_rfl a2) rfl (by omega) (by omega) (fun _ => rfl) dX8_endOf_23 (fun v5 v5l v5u v5w => ?_)
    have k6 := bd_e k4 (congrArg Int32.toInt v5w.symm)
    have v5V : v5.toInt = V h.2.1 92 a2.toInt := by rw [v5w]; rfl
    refine gi_iald (pc := 24) (lo := 0) (hi := 6) (len := 260) hv (ti_rfl v5) rfl (by omega) (by omega) (fun _ => rfl) dX8_endOf_24 (fun v7 v7l v7u v7w => ?_)
    have k8 := bd_e k6 (congrArg Int32.toInt v7w.symm)
    have v7V : v7.toInt = V h.2.1 77 v5.toInt := by rw [v7w]; rfl
    refine go_iconst (pc := 25) (v := 3) (by decide) dX8_endOf_25 ?_
    refine gf_icmp_ne (pc := 26) (tgt := 43) (ti_rfl v7) (ti_c (v := 3) (a := 3) (by decide)) (by decide) dX8_endOf_26 (fun q9 => ?_) (fun q9 => ?_)
    ·
      have k10 := if_t k8 q9
      refine go_aload_n (pc := 43) rfl dX8_endOf_43 ?_
      refine go_aload_n (pc := 44) rfl dX8_endOf_44 ?_
      refine gi_getF (pc := 45) (q := 92) hv fL_X8_74 rfl (Nat.le_of_ble_eq_true rfl) rfl (hv.rf (by decide)) dX8_endOf_45 ?_
      refine go_iload_n (pc := 48) rfl dX8_endOf_48 ?_
      refine gi_iald (pc := 49) (lo := -1) (hi := 259) (len := 560) hv (ti_rfl a2) rfl (by omega) (by omega) (fun _ => rfl) dX8_endOf_49 (fun v11 v11l v11u v11w => ?_)
      have k12 := bd_e k10 (congrArg Int32.toInt v11w.symm)
      have v11V : v11.toInt = V h.2.1 92 a2.toInt := by rw [v11w]; rfl
      have t5 := (ht.1.2.2.2.2.2.1 a2.toInt hb).2.2.1
      rcases t5 with t5 | t5
      · exact False.elim (by omega)
      rcases hx with hx | hx
      · exact False.elim (by omega)
      have sM13 : (h.2.1 70 6).toInt = S := by rw [hv.fy (j := 6) (by omega), ← hv.fy (j := 6) (by omega)]; exact hS.symm
      refine go_invV (pc := 50) (sl := 0) (ihB hv v11 (by rw [show (v11 : Int32).toInt = v11.toInt from (ti_rfl v11)]; omega) (by rw [show (v11 : Int32).toInt = v11.toInt from (ti_rfl v11)]; omega) (by rw [sM13]; exact ht) (by rw [sM13]; exact (by rw [v11V]; exact t5)) x (by rw [sM13]; exact (by rw [v11V]; exact ⟨hx.1, by have := hx.2; omega⟩))) mL_X8_262 iM_X8_behind sM_X8_behind (hv.sh rfl) rfl rfl rfl (Nat.le_of_ble_eq_true rfl) (show d + 0 + 1 ≤ d + 1 by omega) (show 8 + (2 + 11) + 40 * (d + 0) ≤ 40 * (d + 1) by omega) (g_c0 hv.ln) (Nat.le_of_ble_eq_true rfl) dX8_endOf_50 ?_
      intro r h14 hq _
      obtain ⟨v17, rfl, v17l, v17u, rfl, f15, f16⟩ := hq
      rw [sM13] at f15
      replace f16 : PE _ _ := f16
      have k18 := bd_e k12 f16.symm
      exact gi_iret (pc := 53) (ti_rfl v17) ⟨_, rfl, (by rw [show (v17 : Int32).toInt = v17.toInt from (ti_rfl v17)]; omega), (by rw [show (v17 : Int32).toInt = v17.toInt from (ti_rfl v17)]; omega), rfl, (by rw [← hS]; omega), (k18.symm.trans kf)⟩ hv dX8_endOf_53
    ·
      have k19 := if_f k8 (fun z => z q9)
      refine go_aload_n (pc := 29) rfl dX8_endOf_29 ?_
      refine gi_getF (pc := 30) (q := 78) hv fL_X8_32 rfl (Nat.le_of_ble_eq_true rfl) rfl (hv.rf (by decide)) dX8_endOf_30 ?_
      refine go_aload_n (pc := 33) rfl dX8_endOf_33 ?_
      refine gi_getF (pc := 34) (q := 92) hv fL_X8_74 rfl (Nat.le_of_ble_eq_true rfl) rfl (hv.rf (by decide)) dX8_endOf_34 ?_
      refine go_iload_n (pc := 37) rfl dX8_endOf_37 ?_
      refine gi_iald (pc := 38) (lo := -1) (hi := 259) (len := 560) hv (ti_rfl a2) rfl (by omega) (by omega) (fun _ => rfl) dX8_endOf_38 (fun v20 v20l v20u v20w => ?_)
      have k21 := bd_e k19 (congrArg Int32.toInt v20w.symm)
      have v20V : v20.toInt = V h.2.1 92 a2.toInt := by rw [v20w]; rfl
      refine gi_iald (pc := 39) (lo := -1) (hi := 39) (len := 260) hv (ti_rfl v20) rfl (by omega) (by omega) (fun _ => rfl) dX8_endOf_39 (fun v22 v22l v22u v22w => ?_)
      have k23 := bd_e k21 (congrArg Int32.toInt v22w.symm)
      have v22V : v22.toInt = V h.2.1 78 v20.toInt := by rw [v22w]; rfl
      have t5 := (ht.1.2.2.2.2.2.1 a2.toInt hb).2.2.1
      rcases t5 with t5 | t5
      · exact False.elim (by omega)
      have eo : v20.toInt = v5.toInt := by omega
      have t3 := (ht.1.2.2.2.1 v20.toInt (by rw [v20V]; exact t5)).1 (by rw [eo]; omega)
      refine go_goto (pc := 40) (tgt := 53) (by decide) dX8_endOf_40 ?_
      exact gi_iret (pc := 53) (ti_rfl v22) ⟨_, rfl, (by rw [show (v22 : Int32).toInt = v22.toInt from (ti_rfl v22)]; omega), (by rw [show (v22 : Int32).toInt = v22.toInt from (ti_rfl v22)]; omega), rfl, (by rw [← hS]; omega), (k23.symm.trans kf)⟩ hv dX8_endOf_53
  ·
    have k24 := if_f k2 (fun z => z q3)
    refine go_iconst (pc := 10) (v := (-1)) (by decide) dX8_endOf_10 ?_
    refine go_goto (pc := 11) (tgt := 53) (by decide) dX8_endOf_11 ?_
    exact gi_iret (pc := 53) (ti_c (v := (-1)) (a := (-1)) (by decide)) ⟨_, rfl, (by rw [show ((-1) : Int32).toInt = (-1) from (ti_c (v := (-1)) (a := (-1)) (by decide))]; omega), (by rw [show ((-1) : Int32).toInt = (-1) from (ti_c (v := (-1)) (a := (-1)) (by decide))]; omega), rfl, (by rw [← hS, show ((-1) : Int32).toInt = (-1) from (ti_c (v := (-1)) (a := (-1)) (by decide))]; omega), (by rw [show ((-1) : Int32).toInt = (-1) from (ti_c (v := (-1)) (a := (-1)) (by decide))]; exact k24.symm.trans kf)⟩ hv dX8_endOf_53
def f_X8_behind_b (g_X8_endOf : ST → Int → Int) (g_X8_entryOf : ST → Int → Int) (s : ST) (a2 : Int) : Int :=
  bd (s.1 87 (a2).toNat) fun v1 => if ¬ v1 = (-1) then (bd (s.1 87 (a2).toNat) fun v5 => bd (g_X8_entryOf s v5) fun v11 => v11) else (bd (s.1 88 (a2).toNat) fun v14 => bd (g_X8_endOf s v14) fun v20 => v20)
set_option maxHeartbeats 4000000 in
set_option maxRecDepth 100000 in
theorem s_X8_behind_b_f (l : Launch) (d : Nat) {n : Nat} (g_X8_endOf : ST → Int → Int) (g_X8_entryOf : ST → Int → Int) (ihN : ∀ {P : PP} {h : HP} (_ : Iv P h) (a2 : Int32) (a2l : 0 ≤ a2.toInt) (a2u : a2.toInt ≤ 559) (ht : TR h.2.1 (h.2.1 70 6).toInt ∧ CN h.2.1 (h.2.1 70 6).toInt (130 * (h.2.1 70 6).toInt) 0) (hb : BB h.2.1 (h.2.1 70 6).toInt a2.toInt) (x : Int) (hx : (V h.2.1 92 a2.toInt = -1 ∧ 1 ≤ (n : Int)) ∨ (XC h.2.1 (h.2.1 70 6).toInt (V h.2.1 92 a2.toInt) x ∧ 4 * (130 * (h.2.1 70 6).toInt + V h.2.1 73 (h.2.1 70 6).toInt - x) + 2 * V h.2.1 80 (V h.2.1 92 a2.toInt) + 2 ≤ (n : Int))), Mt l yX8_endOf cX8_endOf 2 (some .int) (d + 0) [.ref 70, .int a2] h 0 0 (fun r h' => ∃ v : Int32, r = some (.int v) ∧ -1 ≤ v.toInt ∧ v.toInt ≤ 39 ∧ h = h' ∧ (v.toInt < V h.2.1 75 (h.2.1 70 6).toInt) ∧ (v.toInt = g_X8_endOf (st h) a2.toInt))) (ihE : ∀ {P : PP} {h : HP} (_ : Iv P h) (a2 : Int32) (a2l : 0 ≤ a2.toInt) (a2u : a2.toInt ≤ 259) (ht : TR h.2.1 (h.2.1 70 6).toInt ∧ CN h.2.1 (h.2.1 70 6).toInt (130 * (h.2.1 70 6).toInt) 0) (hi : II h.2.1 (h.2.1 70 6).toInt a2.toInt) (hm : 4 * (130 * (h.2.1 70 6).toInt + V h.2.1 73 (h.2.1 70 6).toInt - a2.toInt) + 2 * V h.2.1 80 a2.toInt + 4 ≤ (n : Int)), Mt l yX8_entryOf cX8_entryOf 2 (some .int) (d + 0) [.ref 70, .int a2] h 0 0 (fun r h' => ∃ v : Int32, r = some (.int v) ∧ -1 ≤ v.toInt ∧ v.toInt ≤ 39 ∧ h = h' ∧ (v.toInt < V h.2.1 75 (h.2.1 70 6).toInt) ∧ (v.toInt = g_X8_entryOf (st h) a2.toInt))) {P : PP} {h : HP} (hv : Iv P h) (a2 : Int32) (a2l : 0 ≤ a2.toInt) (a2u : a2.toInt ≤ 259) (ht : TR h.2.1 (h.2.1 70 6).toInt ∧ CN h.2.1 (h.2.1 70 6).toInt (130 * (h.2.1 70 6).toInt) 0) (hi : II h.2.1 (h.2.1 70 6).toInt a2.toInt) (x : Int) (hx : XC h.2.1 (h.2.1 70 6).toInt a2.toInt x ∧ 4 * (130 * (h.2.1 70 6).toInt + V h.2.1 73 (h.2.1 70 6).toInt - x) + 2 * V h.2.1 80 a2.toInt + 1 ≤ ((n + 1 : Nat) : Int)) : Mt l yX8_behind cX8_behind 2 (some .int) (d + 1) [.ref 70, .int a2] h 0 0 (fun r h' => ∃ v : Int32, r = some (.int v) ∧ -1 ≤ v.toInt ∧ v.toInt ≤ 39 ∧ h = h' ∧ (v.toInt < V h.2.1 75 (h.2.1 70 6).toInt) ∧ (v.toInt = f_X8_behind_b g_X8_endOf g_X8_entryOf (st h) a2.toInt)) := by
  refine Mt_iv hv (by decide) (Nat.le_of_ble_eq_true rfl) ?_
  show Go l RX8 cX8_behind 2 (g_rm (d + 1) 0 0) "behind" (some .int) 117 0 0 (fun _ _ => True) (fun r h' => ∃ v : Int32, r = some (.int v) ∧ -1 ≤ v.toInt ∧ v.toInt ≤ 39 ∧ h = h' ∧ (v.toInt < V h.2.1 75 (h.2.1 70 6).toInt) ∧ (v.toInt = f_X8_behind_b g_X8_endOf g_X8_entryOf (st h) a2.toInt)) 0 0 [(0, .ref 70), (1, .int a2)] [] h
  obtain ⟨S, hS⟩ : ∃ S : Int, S = (h.2.1 70 6).toInt := ⟨_, rfl⟩
  have S0 : 0 ≤ S := by rw [hS]; exact (hv.2.1 70 6).1
  have S1 : S ≤ 1 := by rw [hS]; exact (hv.2.1 70 6).2
  rw [← hS] at ht
  rw [← hS] at hi
  rw [← hS] at hx
  obtain ⟨fin, kf⟩ : ∃ z, z = f_X8_behind_b g_X8_endOf g_X8_entryOf (st h) a2.toInt := ⟨_, _root_.rfl⟩
  have k0 := kf
  unfold f_X8_behind_b at k0
  have tp := ht.1.1
  have cn := (ht.2 a2.toInt hi.1 hi.2).1
  have hx2 := hx.2
  have hx3 := hx.1.2.1
  refine go_aload_n (pc := 0) rfl dX8_behind_0 ?_
  refine gi_getF (pc := 1) (q := 87) hv fL_X8_59 rfl (Nat.le_of_ble_eq_true rfl) rfl (hv.rf (by decide)) dX8_behind_1 ?_
  refine go_iload_n (pc := 4) rfl dX8_behind_4 ?_
  refine gi_iald (pc := 5) (lo := -1) (hi := 259) (len := 260) hv (ti_rfl a2) rfl (by omega) (by omega) (fun _ => rfl) dX8_behind_5 (fun v1 v1l v1u v1w => ?_)
  have k2 := bd_e k0 (congrArg Int32.toInt v1w.symm)
  have v1V : v1.toInt = V h.2.1 87 a2.toInt := by rw [v1w]; rfl
  refine go_iconst (pc := 6) (v := (-1)) (by decide) dX8_behind_6 ?_
  refine gf_icmp_ne (pc := 7) (tgt := 23) (ti_rfl v1) (ti_c (v := (-1)) (a := (-1)) (by decide)) (by decide) dX8_behind_7 (fun q3 => ?_) (fun q3 => ?_)
  ·
    have k4 := if_t k2 q3
    refine go_aload_n (pc := 23) rfl dX8_behind_23 ?_
    refine go_aload_n (pc := 24) rfl dX8_behind_24 ?_
    refine gi_getF (pc := 25) (q := 87) hv fL_X8_59 rfl (Nat.le_of_ble_eq_true rfl) rfl (hv.rf (by decide)) dX8_behind_25 ?_
    refine go_iload_n (pc := 28) rfl dX8_behind_28 ?_
    refine gi_iald (pc := 29) (lo := -1) (hi := 259) (len := 260) hv (ti_rfl a2) rfl (by omega) (by omega) (fun _ => rfl) dX8_behind_29 (fun v5 v5l v5u v5w => ?_)
    have k6 := bd_e k4 (congrArg Int32.toInt v5w.symm)
    have v5V : v5.toInt = V h.2.1 87 a2.toInt := by rw [v5w]; rfl
    have nx := XC.next S0 ht.1 hi hx.1 (by omega)
    rw [← v5V] at nx
    have sM7 : (h.2.1 70 6).toInt = S := by rw [hv.fy (j := 6) (by omega), ← hv.fy (j := 6) (by omega)]; exact hS.symm
    refine go_invV (pc := 30) (sl := 0) (ihE hv v5 (by rw [show (v5 : Int32).toInt = v5.toInt from (ti_rfl v5)]; omega) (by rw [show (v5 : Int32).toInt = v5.toInt from (ti_rfl v5)]; omega) (by rw [sM7]; exact ht) (by rw [sM7]; exact nx.1) (by rw [sM7]; exact (by omega))) mL_X8_259 iM_X8_entryOf sM_X8_entryOf (hv.sh rfl) rfl rfl rfl (Nat.le_of_ble_eq_true rfl) (show d + 0 + 1 ≤ d + 1 by omega) (show 8 + (2 + 11) + 40 * (d + 0) ≤ 40 * (d + 1) by omega) (g_c0 hv.ln) (Nat.le_of_ble_eq_true rfl) dX8_behind_30 ?_
    intro r h8 hq _
    obtain ⟨v11, rfl, v11l, v11u, rfl, f9, f10⟩ := hq
    rw [sM7] at f9
    replace f10 : PE _ _ := f10
    have k12 := bd_e k6 f10.symm
    exact gi_iret (pc := 33) (ti_rfl v11) ⟨_, rfl, (by rw [show (v11 : Int32).toInt = v11.toInt from (ti_rfl v11)]; omega), (by rw [show (v11 : Int32).toInt = v11.toInt from (ti_rfl v11)]; omega), rfl, (by rw [← hS]; omega), (k12.symm.trans kf)⟩ hv dX8_behind_33
  ·
    have k13 := if_f k2 (fun z => z q3)
    refine go_aload_n (pc := 10) rfl dX8_behind_10 ?_
    refine go_aload_n (pc := 11) rfl dX8_behind_11 ?_
    refine gi_getF (pc := 12) (q := 88) hv fL_X8_62 rfl (Nat.le_of_ble_eq_true rfl) rfl (hv.rf (by decide)) dX8_behind_12 ?_
    refine go_iload_n (pc := 15) rfl dX8_behind_15 ?_
    refine gi_iald (pc := 16) (lo := 0) (hi := 559) (len := 260) hv (ti_rfl a2) rfl (by omega) (by omega) (fun _ => rfl) dX8_behind_16 (fun v14 v14l v14u v14w => ?_)
    have k15 := bd_e k13 (congrArg Int32.toInt v14w.symm)
    have v14V : v14.toInt = V h.2.1 88 a2.toInt := by rw [v14w]; rfl
    have up := XC.up ht.1 hi hx.1
    rw [← v14V] at up
    have sM16 : (h.2.1 70 6).toInt = S := by rw [hv.fy (j := 6) (by omega), ← hv.fy (j := 6) (by omega)]; exact hS.symm
    refine go_invV (pc := 17) (sl := 0) (ihN hv v14 (by rw [show (v14 : Int32).toInt = v14.toInt from (ti_rfl v14)]; omega) (by rw [show (v14 : Int32).toInt = v14.toInt from (ti_rfl v14)]; omega) (by rw [sM16]; exact ht) (by rw [sM16]; exact up.1) x (by rw [sM16]; exact (by rcases up.2 with z | z; (exact Or.inl ⟨z, by omega⟩); (exact Or.inr ⟨z.1, by omega⟩)))) mL_X8_256 iM_X8_endOf sM_X8_endOf (hv.sh rfl) rfl rfl rfl (Nat.le_of_ble_eq_true rfl) (show d + 0 + 1 ≤ d + 1 by omega) (show 8 + (2 + 11) + 40 * (d + 0) ≤ 40 * (d + 1) by omega) (g_c0 hv.ln) (Nat.le_of_ble_eq_true rfl) dX8_behind_17 ?_
    intro r h17 hq _
    obtain ⟨v20, rfl, v20l, v20u, rfl, f18, f19⟩ := hq
    rw [sM16] at f18
    replace f19 : PE _ _ := f19
    have k21 := bd_e k15 f19.symm
    refine go_goto (pc := 20) (tgt := 33) (by decide) dX8_behind_20 ?_
    exact gi_iret (pc := 33) (ti_rfl v20) ⟨_, rfl, (by rw [show (v20 : Int32).toInt = v20.toInt from (ti_rfl v20)]; omega), (by rw [show (v20 : Int32).toInt = v20.toInt from (ti_rfl v20)]; omega), rfl, (by rw [← hS]; omega), (k21.symm.trans kf)⟩ hv dX8_behind_33

