/-- all items behind i up to x lie deeper -/
def XC (F : FN) (s i x : Int) : Prop := i ≤ x ∧ x < 130 * s + V F 73 s ∧ ∀ k, i < k → k ≤ x → V F 80 i < V F 80 k
theorem XC.self {F : FN} {s i : Int} (h : II F s i) : XC F s i i := ⟨Int.le_refl _, h.2, fun k h1 h2 => by omega⟩
theorem XC.up {F : FN} {s i x : Int} (t : TR F s) (hi : II F s i) (h : XC F s i x) : BB F s (V F 88 i) ∧ (V F 92 (V F 88 i) = -1 ∨ (XC F s (V F 92 (V F 88 i)) x ∧ V F 80 (V F 92 (V F 88 i)) + 1 = V F 80 i)) := by
  have w := t.2.2.1 i hi
  refine ⟨w.1, ?_⟩
  rcases w.2 with q | ⟨q1, q2, q3, q4⟩
  · exact Or.inl q.1
  · refine Or.inr ⟨⟨by have := h.1; omega, h.2.1, fun k h1 h2 => ?_⟩, q3⟩
    by_cases e : k ≤ i
    · have := q4 k h1 e; omega
    · have := h.2.2 k (by omega) h2; omega
theorem XC.next {F : FN} {s i x : Int} (hs : 0 ≤ s) (t : TR F s) (hi : II F s i) (h : XC F s i x) (hn : ¬ V F 87 i = -1) : II F s (V F 87 i) ∧ x < V F 87 i ∧ V F 80 (V F 87 i) = V F 80 i := by
  rcases t.2.1 i hi with q | ⟨q1, q2, q3⟩
  · exact absurd q hn
  · have hj : II F s (V F 87 i) := ⟨by have := hi.1; omega, q2⟩
    have e : V F 80 (V F 87 i) = V F 80 i := by
      have a := (t.2.2.1 i hi).2
      have b := (t.2.2.1 _ hj).2
      rw [q3] at b
      rcases a with a | a <;> rcases b with b | b <;> omega
    refine ⟨hj, ?_, e⟩
    by_cases c : V F 87 i ≤ x
    · have := h.2.2 _ q1 c; omega
    · omega
theorem dX8_behind_0 : decode cX8_behind 0 = .ok (.aload_n 0, 1) := by decide +kernel
theorem dX8_behind_1 : decode cX8_behind 1 = .ok (.getfield 59, 3) := by decide +kernel
theorem dX8_behind_4 : decode cX8_behind 4 = .ok (.iload_n 1, 1) := by decide +kernel
theorem dX8_behind_5 : decode cX8_behind 5 = .ok (.iaload, 1) := by decide +kernel
theorem dX8_behind_6 : decode cX8_behind 6 = .ok (.iconst (-1), 1) := by decide +kernel
theorem dX8_behind_7 : decode cX8_behind 7 = .ok (.if_icmp .ne 16, 3) := by decide +kernel
theorem dX8_behind_10 : decode cX8_behind 10 = .ok (.aload_n 0, 1) := by decide +kernel
theorem dX8_behind_11 : decode cX8_behind 11 = .ok (.aload_n 0, 1) := by decide +kernel
theorem dX8_behind_12 : decode cX8_behind 12 = .ok (.getfield 62, 3) := by decide +kernel
theorem dX8_behind_15 : decode cX8_behind 15 = .ok (.iload_n 1, 1) := by decide +kernel
theorem dX8_behind_16 : decode cX8_behind 16 = .ok (.iaload, 1) := by decide +kernel
theorem dX8_behind_17 : decode cX8_behind 17 = .ok (.invokevirtual 256, 3) := by decide +kernel
theorem dX8_behind_20 : decode cX8_behind 20 = .ok (.goto 13, 3) := by decide +kernel
theorem dX8_behind_23 : decode cX8_behind 23 = .ok (.aload_n 0, 1) := by decide +kernel
theorem dX8_behind_24 : decode cX8_behind 24 = .ok (.aload_n 0, 1) := by decide +kernel
theorem dX8_behind_25 : decode cX8_behind 25 = .ok (.getfield 59, 3) := by decide +kernel
theorem dX8_behind_28 : decode cX8_behind 28 = .ok (.iload_n 1, 1) := by decide +kernel
theorem dX8_behind_29 : decode cX8_behind 29 = .ok (.iaload, 1) := by decide +kernel
theorem dX8_behind_30 : decode cX8_behind 30 = .ok (.invokevirtual 259, 3) := by decide +kernel
theorem dX8_behind_33 : decode cX8_behind 33 = .ok (.ireturn, 1) := by decide +kernel
theorem dX8_endOf_0 : decode cX8_endOf 0 = .ok (.aload_n 0, 1) := by decide +kernel
theorem dX8_endOf_1 : decode cX8_endOf 1 = .ok (.getfield 74, 3) := by decide +kernel
theorem dX8_endOf_4 : decode cX8_endOf 4 = .ok (.iload_n 1, 1) := by decide +kernel
theorem dX8_endOf_5 : decode cX8_endOf 5 = .ok (.iaload, 1) := by decide +kernel
theorem dX8_endOf_6 : decode cX8_endOf 6 = .ok (.iconst (-1), 1) := by decide +kernel
theorem dX8_endOf_7 : decode cX8_endOf 7 = .ok (.if_icmp .ne 7, 3) := by decide +kernel
theorem dX8_endOf_10 : decode cX8_endOf 10 = .ok (.iconst (-1), 1) := by decide +kernel
theorem dX8_endOf_11 : decode cX8_endOf 11 = .ok (.goto 42, 3) := by decide +kernel
theorem dX8_endOf_14 : decode cX8_endOf 14 = .ok (.aload_n 0, 1) := by decide +kernel
theorem dX8_endOf_15 : decode cX8_endOf 15 = .ok (.getfield 29, 3) := by decide +kernel
theorem dX8_endOf_18 : decode cX8_endOf 18 = .ok (.aload_n 0, 1) := by decide +kernel
theorem dX8_endOf_19 : decode cX8_endOf 19 = .ok (.getfield 74, 3) := by decide +kernel
theorem dX8_endOf_22 : decode cX8_endOf 22 = .ok (.iload_n 1, 1) := by decide +kernel
theorem dX8_endOf_23 : decode cX8_endOf 23 = .ok (.iaload, 1) := by decide +kernel
theorem dX8_endOf_24 : decode cX8_endOf 24 = .ok (.iaload, 1) := by decide +kernel
theorem dX8_endOf_25 : decode cX8_endOf 25 = .ok (.iconst 3, 1) := by decide +kernel
theorem dX8_endOf_26 : decode cX8_endOf 26 = .ok (.if_icmp .ne 17, 3) := by decide +kernel
theorem dX8_endOf_29 : decode cX8_endOf 29 = .ok (.aload_n 0, 1) := by decide +kernel
theorem dX8_endOf_30 : decode cX8_endOf 30 = .ok (.getfield 32, 3) := by decide +kernel
theorem dX8_endOf_33 : decode cX8_endOf 33 = .ok (.aload_n 0, 1) := by decide +kernel
theorem dX8_endOf_34 : decode cX8_endOf 34 = .ok (.getfield 74, 3) := by decide +kernel
theorem dX8_endOf_37 : decode cX8_endOf 37 = .ok (.iload_n 1, 1) := by decide +kernel
theorem dX8_endOf_38 : decode cX8_endOf 38 = .ok (.iaload, 1) := by decide +kernel
theorem dX8_endOf_39 : decode cX8_endOf 39 = .ok (.iaload, 1) := by decide +kernel
theorem dX8_endOf_40 : decode cX8_endOf 40 = .ok (.goto 13, 3) := by decide +kernel
theorem dX8_endOf_43 : decode cX8_endOf 43 = .ok (.aload_n 0, 1) := by decide +kernel
theorem dX8_endOf_44 : decode cX8_endOf 44 = .ok (.aload_n 0, 1) := by decide +kernel
theorem dX8_endOf_45 : decode cX8_endOf 45 = .ok (.getfield 74, 3) := by decide +kernel
theorem dX8_endOf_48 : decode cX8_endOf 48 = .ok (.iload_n 1, 1) := by decide +kernel
theorem dX8_endOf_49 : decode cX8_endOf 49 = .ok (.iaload, 1) := by decide +kernel
theorem dX8_endOf_50 : decode cX8_endOf 50 = .ok (.invokevirtual 262, 3) := by decide +kernel
theorem dX8_endOf_53 : decode cX8_endOf 53 = .ok (.ireturn, 1) := by decide +kernel
theorem dX8_entryOf_0 : decode cX8_entryOf 0 = .ok (.aload_n 0, 1) := by decide +kernel
theorem dX8_entryOf_1 : decode cX8_entryOf 1 = .ok (.getfield 29, 3) := by decide +kernel
theorem dX8_entryOf_4 : decode cX8_entryOf 4 = .ok (.iload_n 1, 1) := by decide +kernel
theorem dX8_entryOf_5 : decode cX8_entryOf 5 = .ok (.iaload, 1) := by decide +kernel
theorem dX8_entryOf_6 : decode cX8_entryOf 6 = .ok (.bipush 6, 2) := by decide +kernel
theorem dX8_entryOf_8 : decode cX8_entryOf 8 = .ok (.if_icmp .ne 16, 3) := by decide +kernel
theorem dX8_entryOf_11 : decode cX8_entryOf 11 = .ok (.aload_n 0, 1) := by decide +kernel
theorem dX8_entryOf_12 : decode cX8_entryOf 12 = .ok (.aload_n 0, 1) := by decide +kernel
theorem dX8_entryOf_13 : decode cX8_entryOf 13 = .ok (.getfield 53, 3) := by decide +kernel
theorem dX8_entryOf_16 : decode cX8_entryOf 16 = .ok (.iload_n 1, 1) := by decide +kernel
theorem dX8_entryOf_17 : decode cX8_entryOf 17 = .ok (.iaload, 1) := by decide +kernel
theorem dX8_entryOf_18 : decode cX8_entryOf 18 = .ok (.invokevirtual 253, 3) := by decide +kernel
theorem dX8_entryOf_21 : decode cX8_entryOf 21 = .ok (.goto 9, 3) := by decide +kernel
theorem dX8_entryOf_24 : decode cX8_entryOf 24 = .ok (.aload_n 0, 1) := by decide +kernel
theorem dX8_entryOf_25 : decode cX8_entryOf 25 = .ok (.getfield 32, 3) := by decide +kernel
theorem dX8_entryOf_28 : decode cX8_entryOf 28 = .ok (.iload_n 1, 1) := by decide +kernel
theorem dX8_entryOf_29 : decode cX8_entryOf 29 = .ok (.iaload, 1) := by decide +kernel
theorem dX8_entryOf_30 : decode cX8_entryOf 30 = .ok (.ireturn, 1) := by decide +kernel
theorem dX8_firstOf_0 : decode cX8_firstOf 0 = .ok (.aload_n 0, 1) := by decide +kernel
theorem dX8_firstOf_1 : decode cX8_firstOf 1 = .ok (.getfield 68, 3) := by decide +kernel
theorem dX8_firstOf_4 : decode cX8_firstOf 4 = .ok (.iload_n 1, 1) := by decide +kernel
theorem dX8_firstOf_5 : decode cX8_firstOf 5 = .ok (.iaload, 1) := by decide +kernel
theorem dX8_firstOf_6 : decode cX8_firstOf 6 = .ok (.iconst (-1), 1) := by decide +kernel
theorem dX8_firstOf_7 : decode cX8_firstOf 7 = .ok (.if_icmp .ne 11, 3) := by decide +kernel
theorem dX8_firstOf_10 : decode cX8_firstOf 10 = .ok (.aload_n 0, 1) := by decide +kernel
theorem dX8_firstOf_11 : decode cX8_firstOf 11 = .ok (.iload_n 1, 1) := by decide +kernel
theorem dX8_firstOf_12 : decode cX8_firstOf 12 = .ok (.invokevirtual 256, 3) := by decide +kernel
theorem dX8_firstOf_15 : decode cX8_firstOf 15 = .ok (.goto 13, 3) := by decide +kernel
theorem dX8_firstOf_18 : decode cX8_firstOf 18 = .ok (.aload_n 0, 1) := by decide +kernel
theorem dX8_firstOf_19 : decode cX8_firstOf 19 = .ok (.aload_n 0, 1) := by decide +kernel
theorem dX8_firstOf_20 : decode cX8_firstOf 20 = .ok (.getfield 68, 3) := by decide +kernel
theorem dX8_firstOf_23 : decode cX8_firstOf 23 = .ok (.iload_n 1, 1) := by decide +kernel
theorem dX8_firstOf_24 : decode cX8_firstOf 24 = .ok (.iaload, 1) := by decide +kernel
theorem dX8_firstOf_25 : decode cX8_firstOf 25 = .ok (.invokevirtual 259, 3) := by decide +kernel
theorem dX8_firstOf_28 : decode cX8_firstOf 28 = .ok (.ireturn, 1) := by decide +kernel
set_option maxHeartbeats 4000000 in
set_option maxRecDepth 100000 in
theorem s_X8_entryOf_b (l : Launch) (d : Nat) {n : Nat} (ihF : ∀ {P : PP} {h : HP} (_ : Iv P h) (a2 : Int32) (a2l : 0 ≤ a2.toInt) (a2u : a2.toInt ≤ 559) (ht : TR h.2.1 (h.2.1 70 6).toInt ∧ CN h.2.1 (h.2.1 70 6).toInt (130 * (h.2.1 70 6).toInt) 0) (hb : BB h.2.1 (h.2.1 70 6).toInt a2.toInt) (hm : (V h.2.1 92 a2.toInt = -1 → 4 * V h.2.1 73 (h.2.1 70 6).toInt + 5 ≤ (n : Int)) ∧ (0 ≤ V h.2.1 92 a2.toInt → 4 * (130 * (h.2.1 70 6).toInt + V h.2.1 73 (h.2.1 70 6).toInt - V h.2.1 92 a2.toInt) + 2 * V h.2.1 80 (V h.2.1 92 a2.toInt) + 3 ≤ (n : Int))), Mt l yX8_firstOf cX8_firstOf 2 (some .int) (d + 0) [.ref 70, .int a2] h 0 0 (fun r h' => ∃ v : Int32, r = some (.int v) ∧ -1 ≤ v.toInt ∧ v.toInt ≤ 39 ∧ h = h' ∧ (v.toInt < V h.2.1 75 (h.2.1 70 6).toInt))) {P : PP} {h : HP} (hv : Iv P h) (a2 : Int32) (a2l : 0 ≤ a2.toInt) (a2u : a2.toInt ≤ 259) (ht : TR h.2.1 (h.2.1 70 6).toInt ∧ CN h.2.1 (h.2.1 70 6).toInt (130 * (h.2.1 70 6).toInt) 0) (hi : II h.2.1 (h.2.1 70 6).toInt a2.toInt) (hm : 4 * (130 * (h.2.1 70 6).toInt + V h.2.1 73 (h.2.1 70 6).toInt - a2.toInt) + 2 * V h.2.1 80 a2.toInt + 4 ≤ ((n + 1 : Nat) : Int)) : Mt l yX8_entryOf cX8_entryOf 2 (some .int) (d + 1) [.ref 70, .int a2] h 0 0 (fun r h' => ∃ v : Int32, r = some (.int v) ∧ -1 ≤ v.toInt ∧ v.toInt ≤ 39 ∧ h = h' ∧ (v.toInt < V h.2.1 75 (h.2.1 70 6).toInt)) := by
  refine Mt_iv hv (by decide) (Nat.le_of_ble_eq_true rfl) ?_
  show Go l RX8 cX8_entryOf 2 (g_rm (d + 1) 0 0) "entryOf" (some .int) 117 0 0 (fun _ _ => True) (fun r h' => ∃ v : Int32, r = some (.int v) ∧ -1 ≤ v.toInt ∧ v.toInt ≤ 39 ∧ h = h' ∧ (v.toInt < V h.2.1 75 (h.2.1 70 6).toInt)) 0 0 [(0, .ref 70), (1, .int a2)] [] h
  obtain ⟨S, hS⟩ : ∃ S : Int, S = (h.2.1 70 6).toInt := ⟨_, rfl⟩
  have S0 : 0 ≤ S := by rw [hS]; exact (hv.2.1 70 6).1
  have S1 : S ≤ 1 := by rw [hS]; exact (hv.2.1 70 6).2
  rw [← hS] at ht
  rw [← hS] at hi
  rw [← hS] at hm
  have tp := ht.1.1
  refine go_aload_n (pc := 0) rfl dX8_entryOf_0 ?_
  refine gi_getF (pc := 1) (q := 77) hv fL_X8_29 rfl (Nat.le_of_ble_eq_true rfl) rfl (hv.rf (by decide)) dX8_entryOf_1 ?_
  refine go_iload_n (pc := 4) rfl dX8_entryOf_4 ?_
  refine gi_iald (pc := 5) (lo := 0) (hi := 6) (len := 260) hv (ti_rfl a2) rfl (by omega) (by omega) (fun _ => rfl) dX8_entryOf_5 (fun v1 v1l v1u v1w => ?_)
  have v1V : v1.toInt = V h.2.1 77 a2.toInt := by rw [v1w]; rfl
  refine go_bipush (pc := 6) (v := 6) (by decide) dX8_entryOf_6 ?_
  refine gf_icmp_ne (pc := 8) (tgt := 24) (ti_rfl v1) (ti_c (v := 6) (a := 6) (by decide)) (by decide) dX8_entryOf_8 (fun q2 => ?_) (fun q2 => ?_)
  ·
    refine go_aload_n (pc := 24) rfl dX8_entryOf_24 ?_
    refine gi_getF (pc := 25) (q := 78) hv fL_X8_32 rfl (Nat.le_of_ble_eq_true rfl) rfl (hv.rf (by decide)) dX8_entryOf_25 ?_
    refine go_iload_n (pc := 28) rfl dX8_entryOf_28 ?_
    refine gi_iald (pc := 29) (lo := -1) (hi := 39) (len := 260) hv (ti_rfl a2) rfl (by omega) (by omega) (fun _ => rfl) dX8_entryOf_29 (fun v3 v3l v3u v3w => ?_)
    have v3V : v3.toInt = V h.2.1 78 a2.toInt := by rw [v3w]; rfl
    have t3 := (ht.1.2.2.2.1 a2.toInt hi).1 (by omega)
    exact gi_iret (pc := 30) (ti_rfl v3) ⟨_, rfl, (by rw [show (v3 : Int32).toInt = v3.toInt from (ti_rfl v3)]; omega), (by rw [show (v3 : Int32).toInt = v3.toInt from (ti_rfl v3)]; omega), rfl, (by rw [← hS]; omega)⟩ hv dX8_entryOf_30
  ·
    refine go_aload_n (pc := 11) rfl dX8_entryOf_11 ?_
    refine go_aload_n (pc := 12) rfl dX8_entryOf_12 ?_
    refine gi_getF (pc := 13) (q := 85) hv fL_X8_53 rfl (Nat.le_of_ble_eq_true rfl) rfl (hv.rf (by decide)) dX8_entryOf_13 ?_
    refine go_iload_n (pc := 16) rfl dX8_entryOf_16 ?_
    refine gi_iald (pc := 17) (lo := -1) (hi := 559) (len := 260) hv (ti_rfl a2) rfl (by omega) (by omega) (fun _ => rfl) dX8_entryOf_17 (fun v4 v4l v4u v4w => ?_)
    have v4V : v4.toInt = V h.2.1 85 a2.toInt := by rw [v4w]; rfl
    have cc := (ht.2 a2.toInt hi.1 hi.2).2
    have b0 := (cc.1 (by omega)).2.2.1
    have t4 := (ht.1.2.2.2.2.1 a2.toInt hi).1
    rcases t4 with t4 | t4
    · exact False.elim (by omega)
    have sM5 : (h.2.1 70 6).toInt = S := by rw [hv.fy (j := 6) (by omega), ← hv.fy (j := 6) (by omega)]; exact hS.symm
    refine go_invV (pc := 18) (sl := 0) (ihF hv v4 (by rw [show (v4 : Int32).toInt = v4.toInt from (ti_rfl v4)]; omega) (by rw [show (v4 : Int32).toInt = v4.toInt from (ti_rfl v4)]; omega) (by rw [sM5]; exact ht) (by rw [sM5]; exact (by rw [v4V]; exact t4.1)) (by rw [sM5]; exact (by rw [v4V, t4.2]; exact ⟨fun q => by omega, fun _ => by omega⟩))) mL_X8_253 iM_X8_firstOf sM_X8_firstOf (hv.sh rfl) rfl rfl rfl (Nat.le_of_ble_eq_true rfl) (show d + 0 + 1 ≤ d + 1 by omega) (show 8 + (2 + 11) + 40 * (d + 0) ≤ 40 * (d + 1) by omega) (g_c0 hv.ln) (Nat.le_of_ble_eq_true rfl) dX8_entryOf_18 ?_
    intro r h6 hq _
    obtain ⟨v8, rfl, v8l, v8u, rfl, f7⟩ := hq
    rw [sM5] at f7
    refine go_goto (pc := 21) (tgt := 30) (by decide) dX8_entryOf_21 ?_
    exact gi_iret (pc := 30) (ti_rfl v8) ⟨_, rfl, (by rw [show (v8 : Int32).toInt = v8.toInt from (ti_rfl v8)]; omega), (by rw [show (v8 : Int32).toInt = v8.toInt from (ti_rfl v8)]; omega), rfl, (by rw [← hS]; omega)⟩ hv dX8_entryOf_30
set_option maxHeartbeats 4000000 in
set_option maxRecDepth 100000 in
theorem s_X8_firstOf_b (l : Launch) (d : Nat) {n : Nat} (ihN : ∀ {P : PP} {h : HP} (_ : Iv P h) (a2 : Int32) (a2l : 0 ≤ a2.toInt) (a2u : a2.toInt ≤ 559) (ht : TR h.2.1 (h.2.1 70 6).toInt ∧ CN h.2.1 (h.2.1 70 6).toInt (130 * (h.2.1 70 6).toInt) 0) (hb : BB h.2.1 (h.2.1 70 6).toInt a2.toInt) (x : Int) (hx : (V h.2.1 92 a2.toInt = -1 ∧ 1 ≤ (n : Int)) ∨ (XC h.2.1 (h.2.1 70 6).toInt (V h.2.1 92 a2.toInt) x ∧ 4 * (130 * (h.2.1 70 6).toInt + V h.2.1 73 (h.2.1 70 6).toInt - x) + 2 * V h.2.1 80 (V h.2.1 92 a2.toInt) + 2 ≤ (n : Int))), Mt l yX8_endOf cX8_endOf 2 (some .int) (d + 0) [.ref 70, .int a2] h 0 0 (fun r h' => ∃ v : Int32, r = some (.int v) ∧ -1 ≤ v.toInt ∧ v.toInt ≤ 39 ∧ h = h' ∧ (v.toInt < V h.2.1 75 (h.2.1 70 6).toInt))) (ihE : ∀ {P : PP} {h : HP} (_ : Iv P h) (a2 : Int32) (a2l : 0 ≤ a2.toInt) (a2u : a2.toInt ≤ 259) (ht : TR h.2.1 (h.2.1 70 6).toInt ∧ CN h.2.1 (h.2.1 70 6).toInt (130 * (h.2.1 70 6).toInt) 0) (hi : II h.2.1 (h.2.1 70 6).toInt a2.toInt) (hm : 4 * (130 * (h.2.1 70 6).toInt + V h.2.1 73 (h.2.1 70 6).toInt - a2.toInt) + 2 * V h.2.1 80 a2.toInt + 4 ≤ (n : Int)), Mt l yX8_entryOf cX8_entryOf 2 (some .int) (d + 0) [.ref 70, .int a2] h 0 0 (fun r h' => ∃ v : Int32, r = some (.int v) ∧ -1 ≤ v.toInt ∧ v.toInt ≤ 39 ∧ h = h' ∧ (v.toInt < V h.2.1 75 (h.2.1 70 6).toInt))) {P : PP} {h : HP} (hv : Iv P h) (a2 : Int32) (a2l : 0 ≤ a2.toInt) (a2u : a2.toInt ≤ 559) (ht : TR h.2.1 (h.2.1 70 6).toInt ∧ CN h.2.1 (h.2.1 70 6).toInt (130 * (h.2.1 70 6).toInt) 0) (hb : BB h.2.1 (h.2.1 70 6).toInt a2.toInt) (hm : (V h.2.1 92 a2.toInt = -1 → 4 * V h.2.1 73 (h.2.1 70 6).toInt + 5 ≤ ((n + 1 : Nat) : Int)) ∧ (0 ≤ V h.2.1 92 a2.toInt → 4 * (130 * (h.2.1 70 6).toInt + V h.2.1 73 (h.2.1 70 6).toInt - V h.2.1 92 a2.toInt) + 2 * V h.2.1 80 (V h.2.1 92 a2.toInt) + 3 ≤ ((n + 1 : Nat) : Int))) : Mt l yX8_firstOf cX8_firstOf 2 (some .int) (d + 1) [.ref 70, .int a2] h 0 0 (fun r h' => ∃ v : Int32, r = some (.int v) ∧ -1 ≤ v.toInt ∧ v.toInt ≤ 39 ∧ h = h' ∧ (v.toInt < V h.2.1 75 (h.2.1 70 6).toInt)) := by
  refine Mt_iv hv (by decide) (Nat.le_of_ble_eq_true rfl) ?_
  show Go l RX8 cX8_firstOf 2 (g_rm (d + 1) 0 0) "firstOf" (some .int) 117 0 0 (fun _ _ => True) (fun r h' => ∃ v : Int32, r = some (.int v) ∧ -1 ≤ v.toInt ∧ v.toInt ≤ 39 ∧ h = h' ∧ (v.toInt < V h.2.1 75 (h.2.1 70 6).toInt)) 0 0 [(0, .ref 70), (1, .int a2)] [] h
  obtain ⟨S, hS⟩ : ∃ S : Int, S = (h.2.1 70 6).toInt := ⟨_, rfl⟩
  have S0 : 0 ≤ S := by rw [hS]; exact (hv.2.1 70 6).1
  have S1 : S ≤ 1 := by rw [hS]; exact (hv.2.1 70 6).2
  rw [← hS] at ht
  rw [← hS] at hb
  rw [← hS] at hm
  have tp := ht.1.1
  refine go_aload_n (pc := 0) rfl dX8_firstOf_0 ?_
  refine gi_getF (pc := 1) (q := 90) hv fL_X8_68 rfl (Nat.le_of_ble_eq_true rfl) rfl (hv.rf (by decide)) dX8_firstOf_1 ?_
  refine go_iload_n (pc := 4) rfl dX8_firstOf_4 ?_
  refine gi_iald (pc := 5) (lo := -1) (hi := 259) (len := 560) hv (ti_rfl a2) rfl (by omega) (by omega) (fun _ => rfl) dX8_firstOf_5 (fun v1 v1l v1u v1w => ?_)
  have v1V : v1.toInt = V h.2.1 90 a2.toInt := by rw [v1w]; rfl
  refine go_iconst (pc := 6) (v := (-1)) (by decide) dX8_firstOf_6 ?_
  refine gf_icmp_ne (pc := 7) (tgt := 18) (ti_rfl v1) (ti_c (v := (-1)) (a := (-1)) (by decide)) (by decide) dX8_firstOf_7 (fun q2 => ?_) (fun q2 => ?_)
  ·
    refine go_aload_n (pc := 18) rfl dX8_firstOf_18 ?_
    refine go_aload_n (pc := 19) rfl dX8_firstOf_19 ?_
    refine gi_getF (pc := 20) (q := 90) hv fL_X8_68 rfl (Nat.le_of_ble_eq_true rfl) rfl (hv.rf (by decide)) dX8_firstOf_20 ?_
    refine go_iload_n (pc := 23) rfl dX8_firstOf_23 ?_
    refine gi_iald (pc := 24) (lo := -1) (hi := 259) (len := 560) hv (ti_rfl a2) rfl (by omega) (by omega) (fun _ => rfl) dX8_firstOf_24 (fun v3 v3l v3u v3w => ?_)
    have v3V : v3.toInt = V h.2.1 90 a2.toInt := by rw [v3w]; rfl
    have t5 := (ht.1.2.2.2.2.2.1 a2.toInt hb).1
    rcases t5 with t5 | t5
    · exact False.elim (by omega)
    have t2 := (ht.1.2.2.1 _ t5.1).2
    rw [t5.2] at t2
    have f1 := t5.1.1
    have f2 := t5.1.2
    rw [← v3V] at t2 f1 f2
    have sM4 : (h.2.1 70 6).toInt = S := by rw [hv.fy (j := 6) (by omega), ← hv.fy (j := 6) (by omega)]; exact hS.symm
    refine go_invV (pc := 25) (sl := 0) (ihE hv v3 (by rw [show (v3 : Int32).toInt = v3.toInt from (ti_rfl v3)]; omega) (by rw [show (v3 : Int32).toInt = v3.toInt from (ti_rfl v3)]; omega) (by rw [sM4]; exact ht) (by rw [sM4]; exact (by rw [v3V]; exact t5.1)) (by rw [sM4]; exact (by rcases t2 with z | z; (have := hm.1 z.1; omega); (have := hm.2 (by omega); omega)))) mL_X8_259 iM_X8_entryOf sM_X8_entryOf (hv.sh rfl) rfl rfl rfl (Nat.le_of_ble_eq_true rfl) (show d + 0 + 1 ≤ d + 1 by omega) (show 8 + (2 + 11) + 40 * (d + 0) ≤ 40 * (d + 1) by omega) (g_c0 hv.ln) (Nat.le_of_ble_eq_true rfl) dX8_firstOf_25 ?_
    intro r h5 hq _
    obtain ⟨v7, rfl, v7l, v7u, rfl, f6⟩ := hq
    rw [sM4] at f6
    exact gi_iret (pc := 28) (ti_rfl v7) ⟨_, rfl, (by rw [show (v7 : Int32).toInt = v7.toInt from (ti_rfl v7)]; omega), (by rw [show (v7 : Int32).toInt = v7.toInt from (ti_rfl v7)]; omega), rfl, (by rw [← hS]; omega)⟩ hv dX8_firstOf_28
  ·
    refine go_aload_n (pc := 10) rfl dX8_firstOf_10 ?_
    refine go_iload_n (pc := 11) rfl dX8_firstOf_11 ?_
    have t5 := (ht.1.2.2.2.2.2.1 a2.toInt hb).2.2.1
    have sM8 : (h.2.1 70 6).toInt = S := by rw [hv.fy (j := 6) (by omega), ← hv.fy (j := 6) (by omega)]; exact hS.symm
    refine go_invV (pc := 12) (sl := 0) (ihN hv a2 (by rw [show (a2 : Int32).toInt = a2.toInt from (ti_rfl a2)]; omega) (by rw [show (a2 : Int32).toInt = a2.toInt from (ti_rfl a2)]; omega) (by rw [sM8]; exact ht) (by rw [sM8]; exact hb) (V h.2.1 92 a2.toInt) (by rw [sM8]; exact (by rcases t5 with z | z; (exact Or.inl ⟨z, by have := hm.1 z; omega⟩); (exact Or.inr ⟨XC.self z, by have z1 := z.1; have := hm.2 (by omega); omega⟩)))) mL_X8_256 iM_X8_endOf sM_X8_endOf (hv.sh rfl) rfl rfl rfl (Nat.le_of_ble_eq_true rfl) (show d + 0 + 1 ≤ d + 1 by omega) (show 8 + (2 + 11) + 40 * (d + 0) ≤ 40 * (d + 1) by omega) (g_c0 hv.ln) (Nat.le_of_ble_eq_true rfl) dX8_firstOf_12 ?_
    intro r h9 hq _
    obtain ⟨v11, rfl, v11l, v11u, rfl, f10⟩ := hq
    rw [sM8] at f10
    refine go_goto (pc := 15) (tgt := 28) (by decide) dX8_firstOf_15 ?_
    exact gi_iret (pc := 28) (ti_rfl v11) ⟨_, rfl, (by rw [show (v11 : Int32).toInt = v11.toInt from (ti_rfl v11)]; omega), (by rw [show (v11 : Int32).toInt = v11.toInt from (ti_rfl v11)]; omega), rfl, (by rw [← hS]; omega)⟩ hv dX8_firstOf_28
set_option maxHeartbeats 4000000 in
set_option maxRecDepth 100000 in
theorem s_X8_endOf_b (l : Launch) (d : Nat) {n : Nat} (ihB : ∀ {P : PP} {h : HP} (_ : Iv P h) (a2 : Int32) (a2l : 0 ≤ a2.toInt) (a2u : a2.toInt ≤ 259) (ht : TR h.2.1 (h.2.1 70 6).toInt ∧ CN h.2.1 (h.2.1 70 6).toInt (130 * (h.2.1 70 6).toInt) 0) (hi : II h.2.1 (h.2.1 70 6).toInt a2.toInt) (x : Int) (hx : XC h.2.1 (h.2.1 70 6).toInt a2.toInt x ∧ 4 * (130 * (h.2.1 70 6).toInt + V h.2.1 73 (h.2.1 70 6).toInt - x) + 2 * V h.2.1 80 a2.toInt + 1 ≤ (n : Int)), Mt l yX8_behind cX8_behind 2 (some .int) (d + 0) [.ref 70, .int a2] h 0 0 (fun r h' => ∃ v : Int32, r = some (.int v) ∧ -1 ≤ v.toInt ∧ v.toInt ≤ 39 ∧ h = h' ∧ (v.toInt < V h.2.1 75 (h.2.1 70 6).toInt))) {P : PP} {h : HP} (hv : Iv P h) (a2 : Int32) (a2l : 0 ≤ a2.toInt) (a2u : a2.toInt ≤ 559) (ht : TR h.2.1 (h.2.1 70 6).toInt ∧ CN h.2.1 (h.2.1 70 6).toInt (130 * (h.2.1 70 6).toInt) 0) (hb : BB h.2.1 (h.2.1 70 6).toInt a2.toInt) (x : Int) (hx : (V h.2.1 92 a2.toInt = -1 ∧ 1 ≤ ((n + 1 : Nat) : Int)) ∨ (XC h.2.1 (h.2.1 70 6).toInt (V h.2.1 92 a2.toInt) x ∧ 4 * (130 * (h.2.1 70 6).toInt + V h.2.1 73 (h.2.1 70 6).toInt - x) + 2 * V h.2.1 80 (V h.2.1 92 a2.toInt) + 2 ≤ ((n + 1 : Nat) : Int))) : Mt l yX8_endOf cX8_endOf 2 (some .int) (d + 1) [.ref 70, .int a2] h 0 0 (fun r h' => ∃ v : Int32, r = some (.int v) ∧ -1 ≤ v.toInt ∧ v.toInt ≤ 39 ∧ h = h' ∧ (v.toInt < V h.2.1 75 (h.2.1 70 6).toInt)) := by
  refine Mt_iv hv (by decide) (Nat.le_of_ble_eq_true rfl) ?_
  show Go l RX8 cX8_endOf 2 (g_rm (d + 1) 0 0) "endOf" (some .int) 117 0 0 (fun _ _ => True) (fun r h' => ∃ v : Int32, r = some (.int v) ∧ -1 ≤ v.toInt ∧ v.toInt ≤ 39 ∧ h = h' ∧ (v.toInt < V h.2.1 75 (h.2.1 70 6).toInt)) 0 0 [(0, .ref 70), (1, .int a2)] [] h
  obtain ⟨S, hS⟩ : ∃ S : Int, S = (h.2.1 70 6).toInt := ⟨_, rfl⟩
  have S0 : 0 ≤ S := by rw [hS]; exact (hv.2.1 70 6).1
  have S1 : S ≤ 1 := by rw [hS]; exact (hv.2.1 70 6).2
  rw [← hS] at ht
  rw [← hS] at hb
  rw [← hS] at hx
  have tp := ht.1.1
  refine go_aload_n (pc := 0) rfl dX8_endOf_0 ?_
  refine gi_getF (pc := 1) (q := 92) hv fL_X8_74 rfl (Nat.le_of_ble_eq_true rfl) rfl (hv.rf (by decide)) dX8_endOf_1 ?_
  refine go_iload_n (pc := 4) rfl dX8_endOf_4 ?_
  refine gi_iald (pc := 5) (lo := -1) (hi := 259) (len := 560) hv (ti_rfl a2) rfl (by omega) (by omega) (fun _ => rfl) dX8_endOf_5 (fun v1 v1l v1u v1w => ?_)
  have v1V : v1.toInt = V h.2.1 92 a2.toInt := by rw [v1w]; rfl
  refine go_iconst (pc := 6) (v := (-1)) (by decide) dX8_endOf_6 ?_
  refine gf_icmp_ne (pc := 7) (tgt := 14) (ti_rfl v1) (ti_c (v := (-1)) (a := (-1)) (by decide)) (by decide) dX8_endOf_7 (fun q2 => ?_) (fun q2 => ?_)
  ·
    refine go_aload_n (pc := 14) rfl dX8_endOf_14 ?_
    refine gi_getF (pc := 15) (q := 77) hv fL_X8_29 rfl (Nat.le_of_ble_eq_true rfl) rfl (hv.rf (by decide)) dX8_endOf_15 ?_
    refine go_aload_n (pc := 18) rfl dX8_endOf_18 ?_
    refine gi_getF (pc := 19) (q := 92) hv fL_X8_74 rfl (Nat.le_of_ble_eq_true rfl) rfl (hv.rf (by decide)) dX8_endOf_19 ?_
    refine go_iload_n (pc := 22) rfl dX8_endOf_22 ?_
    refine gi_iald (pc := 23) (lo := -1) (hi := 259) (len := 560) hv (ti_rfl a2) rfl (by omega) (by omega) (fun _ => rfl) dX8_endOf_23 (fun v3 v3l v3u v3w => ?_)
    have v3V : v3.toInt = V h.2.1 92 a2.toInt := by rw [v3w]; rfl
    refine gi_iald (pc := 24) (lo := 0) (hi := 6) (len := 260) hv (ti_rfl v3) rfl (by omega) (by omega) (fun _ => rfl) dX8_endOf_24 (fun v4 v4l v4u v4w => ?_)
    have v4V : v4.toInt = V h.2.1 77 v3.toInt := by rw [v4w]; rfl
    refine go_iconst (pc := 25) (v := 3) (by decide) dX8_endOf_25 ?_
    refine gf_icmp_ne (pc := 26) (tgt := 43) (ti_rfl v4) (ti_c (v := 3) (a := 3) (by decide)) (by decide) dX8_endOf_26 (fun q5 => ?_) (fun q5 => ?_)
    ·
      refine go_aload_n (pc := 43) rfl dX8_endOf_43 ?_
      refine go_aload_n (pc := 44) rfl dX8_endOf_44 ?_
      refine gi_getF (pc := 45) (q := 92) hv fL_X8_74 rfl (Nat.le_of_ble_eq_true rfl) rfl (hv.rf (by decide)) dX8_endOf_45 ?_
      refine go_iload_n (pc := 48) rfl dX8_endOf_48 ?_
      refine gi_iald (pc := 49) (lo := -1) (hi := 259) (len := 560) hv (ti_rfl a2) rfl (by omega) (by omega) (fun _ => rfl) dX8_endOf_49 (fun v6 v6l v6u v6w => ?_)
      have v6V : v6.toInt = V h.2.1 92 a2.toInt := by rw [v6w]; rfl
      have t5 := (ht.1.2.2.2.2.2.1 a2.toInt hb).2.2.1
      rcases t5 with t5 | t5
      · exact False.elim (by omega)
      rcases hx with hx | hx
      · exact False.elim (by omega)
      have sM7 : (h.2.1 70 6).toInt = S := by rw [hv.fy (j := 6) (by omega), ← hv.fy (j := 6) (by omega)]; exact hS.symm
      refine go_invV (pc := 50) (sl := 0) (ihB hv v6 (by rw [show (v6 : Int32).toInt = v6.toInt from (ti_rfl v6)]; omega) (by rw [show (v6 : Int32).toInt = v6.toInt from (ti_rfl v6)]; omega) (by rw [sM7]; exact ht) (by rw [sM7]; exact (by rw [v6V]; exact t5)) x (by rw [sM7]; exact (by rw [v6V]; exact ⟨hx.1, by have := hx.2; omega⟩))) mL_X8_262 iM_X8_behind sM_X8_behind (hv.sh rfl) rfl rfl rfl (Nat.le_of_ble_eq_true rfl) (show d + 0 + 1 ≤ d + 1 by omega) (show 8 + (2 + 11) + 40 * (d + 0) ≤ 40 * (d + 1) by omega) (g_c0 hv.ln) (Nat.le_of_ble_eq_true rfl) dX8_endOf_50 ?_
      intro r h8 hq _
      obtain ⟨v10, rfl, v10l, v10u, rfl, f9⟩ := hq
      rw [sM7] at f9
      exact gi_iret (pc := 53) (ti_rfl v10) ⟨_, rfl, (by rw [show (v10 : Int32).toInt = v10.toInt from (ti_rfl v10)]; omega), (by rw [show (v10 : Int32).toInt = v10.toInt from (ti_rfl v10)]; omega), rfl, (by rw [← hS]; omega)⟩ hv dX8_endOf_53
    ·
      refine go_aload_n (pc := 29) rfl dX8_endOf_29 ?_
      refine gi_getF (pc := 30) (q := 78) hv fL_X8_32 rfl (Nat.le_of_ble_eq_true rfl) rfl (hv.rf (by decide)) dX8_endOf_30 ?_
      refine go_aload_n (pc := 33) rfl dX8_endOf_33 ?_
      refine gi_getF (pc := 34) (q := 92) hv fL_X8_74 rfl (Nat.le_of_ble_eq_true rfl) rfl (hv.rf (by decide)) dX8_endOf_34 ?_
      refine go_iload_n (pc := 37) rfl dX8_endOf_37 ?_
      refine gi_iald (pc := 38) (lo := -1) (hi := 259) (len := 560) hv (ti_rfl a2) rfl (by omega) (by omega) (fun _ => rfl) dX8_endOf_38 (fun v11 v11l v11u v11w => ?_)
      have v11V : v11.toInt = V h.2.1 92 a2.toInt := by rw [v11w]; rfl
      refine gi_iald (pc := 39) (lo := -1) (hi := 39) (len := 260) hv (ti_rfl v11) rfl (by omega) (by omega) (fun _ => rfl) dX8_endOf_39 (fun v12 v12l v12u v12w => ?_)
      have v12V : v12.toInt = V h.2.1 78 v11.toInt := by rw [v12w]; rfl
      have t5 := (ht.1.2.2.2.2.2.1 a2.toInt hb).2.2.1
      rcases t5 with t5 | t5
      · exact False.elim (by omega)
      have eo : v11.toInt = v3.toInt := by omega
      have t3 := (ht.1.2.2.2.1 v11.toInt (by rw [v11V]; exact t5)).1 (by rw [eo]; omega)
      refine go_goto (pc := 40) (tgt := 53) (by decide) dX8_endOf_40 ?_
      exact gi_iret (pc := 53) (ti_rfl v12) ⟨_, rfl, (by rw [show (v12 : Int32).toInt = v12.toInt from (ti_rfl v12)]; omega), (by rw [show (v12 : Int32).toInt = v12.toInt from (ti_rfl v12)]; omega), rfl, (by rw [← hS]; omega)⟩ hv dX8_endOf_53
  ·
    refine go_iconst (pc := 10) (v := (-1)) (by decide) dX8_endOf_10 ?_
    refine go_goto (pc := 11) (tgt := 53) (by decide) dX8_endOf_11 ?_
    exact gi_iret (pc := 53) (ti_c (v := (-1)) (a := (-1)) (by decide)) ⟨_, rfl, (by rw [show ((-1) : Int32).toInt = (-1) from (ti_c (v := (-1)) (a := (-1)) (by decide))]; omega), (by rw [show ((-1) : Int32).toInt = (-1) from (ti_c (v := (-1)) (a := (-1)) (by decide))]; omega), rfl, (by rw [← hS, show ((-1) : Int32).toInt = (-1) from (ti_c (v := (-1)) (a := (-1)) (by decide))]; omega)⟩ hv dX8_endOf_53
set_option maxHeartbeats 4000000 in
set_option maxRecDepth 100000 in
theorem s_X8_behind_b (l : Launch) (d : Nat) {n : Nat} (ihN : ∀ {P : PP} {h : HP} (_ : Iv P h) (a2 : Int32) (a2l : 0 ≤ a2.toInt) (a2u : a2.toInt ≤ 559) (ht : TR h.2.1 (h.2.1 70 6).toInt ∧ CN h.2.1 (h.2.1 70 6).toInt (130 * (h.2.1 70 6).toInt) 0) (hb : BB h.2.1 (h.2.1 70 6).toInt a2.toInt) (x : Int) (hx : (V h.2.1 92 a2.toInt = -1 ∧ 1 ≤ (n : Int)) ∨ (XC h.2.1 (h.2.1 70 6).toInt (V h.2.1 92 a2.toInt) x ∧ 4 * (130 * (h.2.1 70 6).toInt + V h.2.1 73 (h.2.1 70 6).toInt - x) + 2 * V h.2.1 80 (V h.2.1 92 a2.toInt) + 2 ≤ (n : Int))), Mt l yX8_endOf cX8_endOf 2 (some .int) (d + 0) [.ref 70, .int a2] h 0 0 (fun r h' => ∃ v : Int32, r = some (.int v) ∧ -1 ≤ v.toInt ∧ v.toInt ≤ 39 ∧ h = h' ∧ (v.toInt < V h.2.1 75 (h.2.1 70 6).toInt))) (ihE : ∀ {P : PP} {h : HP} (_ : Iv P h) (a2 : Int32) (a2l : 0 ≤ a2.toInt) (a2u : a2.toInt ≤ 259) (ht : TR h.2.1 (h.2.1 70 6).toInt ∧ CN h.2.1 (h.2.1 70 6).toInt (130 * (h.2.1 70 6).toInt) 0) (hi : II h.2.1 (h.2.1 70 6).toInt a2.toInt) (hm : 4 * (130 * (h.2.1 70 6).toInt + V h.2.1 73 (h.2.1 70 6).toInt - a2.toInt) + 2 * V h.2.1 80 a2.toInt + 4 ≤ (n : Int)), Mt l yX8_entryOf cX8_entryOf 2 (some .int) (d + 0) [.ref 70, .int a2] h 0 0 (fun r h' => ∃ v : Int32, r = some (.int v) ∧ -1 ≤ v.toInt ∧ v.toInt ≤ 39 ∧ h = h' ∧ (v.toInt < V h.2.1 75 (h.2.1 70 6).toInt))) {P : PP} {h : HP} (hv : Iv P h) (a2 : Int32) (a2l : 0 ≤ a2.toInt) (a2u : a2.toInt ≤ 259) (ht : TR h.2.1 (h.2.1 70 6).toInt ∧ CN h.2.1 (h.2.1 70 6).toInt (130 * (h.2.1 70 6).toInt) 0) (hi : II h.2.1 (h.2.1 70 6).toInt a2.toInt) (x : Int) (hx : XC h.2.1 (h.2.1 70 6).toInt a2.toInt x ∧ 4 * (130 * (h.2.1 70 6).toInt + V h.2.1 73 (h.2.1 70 6).toInt - x) + 2 * V h.2.1 80 a2.toInt + 1 ≤ ((n + 1 : Nat) : Int)) : Mt l yX8_behind cX8_behind 2 (some .int) (d + 1) [.ref 70, .int a2] h 0 0 (fun r h' => ∃ v : Int32, r = some (.int v) ∧ -1 ≤ v.toInt ∧ v.toInt ≤ 39 ∧ h = h' ∧ (v.toInt < V h.2.1 75 (h.2.1 70 6).toInt)) := by
  refine Mt_iv hv (by decide) (Nat.le_of_ble_eq_true rfl) ?_
  show Go l RX8 cX8_behind 2 (g_rm (d + 1) 0 0) "behind" (some .int) 117 0 0 (fun _ _ => True) (fun r h' => ∃ v : Int32, r = some (.int v) ∧ -1 ≤ v.toInt ∧ v.toInt ≤ 39 ∧ h = h' ∧ (v.toInt < V h.2.1 75 (h.2.1 70 6).toInt)) 0 0 [(0, .ref 70), (1, .int a2)] [] h
  obtain ⟨S, hS⟩ : ∃ S : Int, S = (h.2.1 70 6).toInt := ⟨_, rfl⟩
  have S0 : 0 ≤ S := by rw [hS]; exact (hv.2.1 70 6).1
  have S1 : S ≤ 1 := by rw [hS]; exact (hv.2.1 70 6).2
  rw [← hS] at ht
  rw [← hS] at hi
  rw [← hS] at hx
  have tp := ht.1.1
  have cn := (ht.2 a2.toInt hi.1 hi.2).1
  have hx2 := hx.2
  have hx3 := hx.1.2.1
  refine go_aload_n (pc := 0) rfl dX8_behind_0 ?_
  refine gi_getF (pc := 1) (q := 87) hv fL_X8_59 rfl (Nat.le_of_ble_eq_true rfl) rfl (hv.rf (by decide)) dX8_behind_1 ?_
  refine go_iload_n (pc := 4) rfl dX8_behind_4 ?_
  refine gi_iald (pc := 5) (lo := -1) (hi := 259) (len := 260) hv (ti_rfl a2) rfl (by omega) (by omega) (fun _ => rfl) dX8_behind_5 (fun v1 v1l v1u v1w => ?_)
  have v1V : v1.toInt = V h.2.1 87 a2.toInt := by rw [v1w]; rfl
  refine go_iconst (pc := 6) (v := (-1)) (by decide) dX8_behind_6 ?_
  refine gf_icmp_ne (pc := 7) (tgt := 23) (ti_rfl v1) (ti_c (v := (-1)) (a := (-1)) (by decide)) (by decide) dX8_behind_7 (fun q2 => ?_) (fun q2 => ?_)
  ·
    refine go_aload_n (pc := 23) rfl dX8_behind_23 ?_
    refine go_aload_n (pc := 24) rfl dX8_behind_24 ?_
    refine gi_getF (pc := 25) (q := 87) hv fL_X8_59 rfl (Nat.le_of_ble_eq_true rfl) rfl (hv.rf (by decide)) dX8_behind_25 ?_
    refine go_iload_n (pc := 28) rfl dX8_behind_28 ?_
    refine gi_iald (pc := 29) (lo := -1) (hi := 259) (len := 260) hv (ti_rfl a2) rfl (by omega) (by omega) (fun _ => rfl) dX8_behind_29 (fun v3 v3l v3u v3w => ?_)
    have v3V : v3.toInt = V h.2.1 87 a2.toInt := by rw [v3w]; rfl
    have nx := XC.next S0 ht.1 hi hx.1 (by omega)
    rw [← v3V] at nx
    have sM4 : (h.2.1 70 6).toInt = S := by rw [hv.fy (j := 6) (by omega), ← hv.fy (j := 6) (by omega)]; exact hS.symm
    refine go_invV (pc := 30) (sl := 0) (ihE hv v3 (by rw [show (v3 : Int32).toInt = v3.toInt from (ti_rfl v3)]; omega) (by rw [show (v3 : Int32).toInt = v3.toInt from (ti_rfl v3)]; omega) (by rw [sM4]; exact ht) (by rw [sM4]; exact nx.1) (by rw [sM4]; exact (by omega))) mL_X8_259 iM_X8_entryOf sM_X8_entryOf (hv.sh rfl) rfl rfl rfl (Nat.le_of_ble_eq_true rfl) (show d + 0 + 1 ≤ d + 1 by omega) (show 8 + (2 + 11) + 40 * (d + 0) ≤ 40 * (d + 1) by omega) (g_c0 hv.ln) (Nat.le_of_ble_eq_true rfl) dX8_behind_30 ?_
    intro r h5 hq _
    obtain ⟨v7, rfl, v7l, v7u, rfl, f6⟩ := hq
    rw [sM4] at f6
    exact gi_iret (pc := 33) (ti_rfl v7) ⟨_, rfl, (by rw [show (v7 : Int32).toInt = v7.toInt from (ti_rfl v7)]; omega), (by rw [show (v7 : Int32).toInt = v7.toInt from (ti_rfl v7)]; omega), rfl, (by rw [← hS]; omega)⟩ hv dX8_behind_33
  ·
    refine go_aload_n (pc := 10) rfl dX8_behind_10 ?_
    refine go_aload_n (pc := 11) rfl dX8_behind_11 ?_
    refine gi_getF (pc := 12) (q := 88) hv fL_X8_62 rfl (Nat.le_of_ble_eq_true rfl) rfl (hv.rf (by decide)) dX8_behind_12 ?_
    refine go_iload_n (pc := 15) rfl dX8_behind_15 ?_
    refine gi_iald (pc := 16) (lo := 0) (hi := 559) (len := 260) hv (ti_rfl a2) rfl (by omega) (by omega) (fun _ => rfl) dX8_behind_16 (fun v8 v8l v8u v8w => ?_)
    have v8V : v8.toInt = V h.2.1 88 a2.toInt := by rw [v8w]; rfl
    have up := XC.up ht.1 hi hx.1
    rw [← v8V] at up
    have sM9 : (h.2.1 70 6).toInt = S := by rw [hv.fy (j := 6) (by omega), ← hv.fy (j := 6) (by omega)]; exact hS.symm
    refine go_invV (pc := 17) (sl := 0) (ihN hv v8 (by rw [show (v8 : Int32).toInt = v8.toInt from (ti_rfl v8)]; omega) (by rw [show (v8 : Int32).toInt = v8.toInt from (ti_rfl v8)]; omega) (by rw [sM9]; exact ht) (by rw [sM9]; exact up.1) x (by rw [sM9]; exact (by rcases up.2 with z | z; (exact Or.inl ⟨z, by omega⟩); (exact Or.inr ⟨z.1, by omega⟩)))) mL_X8_256 iM_X8_endOf sM_X8_endOf (hv.sh rfl) rfl rfl rfl (Nat.le_of_ble_eq_true rfl) (show d + 0 + 1 ≤ d + 1 by omega) (show 8 + (2 + 11) + 40 * (d + 0) ≤ 40 * (d + 1) by omega) (g_c0 hv.ln) (Nat.le_of_ble_eq_true rfl) dX8_behind_17 ?_
    intro r h10 hq _
    obtain ⟨v12, rfl, v12l, v12u, rfl, f11⟩ := hq
    rw [sM9] at f11
    refine go_goto (pc := 20) (tgt := 33) (by decide) dX8_behind_20 ?_
    exact gi_iret (pc := 33) (ti_rfl v12) ⟨_, rfl, (by rw [show (v12 : Int32).toInt = v12.toInt from (ti_rfl v12)]; omega), (by rw [show (v12 : Int32).toInt = v12.toInt from (ti_rfl v12)]; omega), rfl, (by rw [← hS]; omega)⟩ hv dX8_behind_33
