theorem b_runs (l : Launch) (d : Nat) : ∀ nn : Nat, (∀ {P : PP} {h : HP} (_ : Iv P h) (a2 : Int32) (a2l : 0 ≤ a2.toInt) (a2u : a2.toInt ≤ 559) (a3 : Int32) (a3l : 0 ≤ a3.toInt) (a3u : a3.toInt ≤ 30) (hr : RD h.2.1 (h.2.1 70 6).toInt ∧ TD h.2.1 (h.2.1 70 6).toInt) (hl : (h.2.1 70 29).toInt = (h.2.1 70 6).toInt) (ckf : CKF h.2.1) (hb : BB h.2.1 (h.2.1 70 6).toInt a2.toInt) (hg : (V h.2.1 92 a2.toInt = -1 → 30 * (30 - a3.toInt) + 24 ≤ (nn : Int)) ∧ (0 ≤ V h.2.1 92 a2.toInt → 30 * (30 - a3.toInt) + 3 * (6 - V h.2.1 80 (V h.2.1 92 a2.toInt)) + 3 ≤ (nn : Int))), Mt l yX8_goesBlock cX8_goesBlock 5 (some .int) (d + nn + 2) [.ref 70, .int a2, .int a3] h 0 0 (fun r h' => ∃ v : Int32, r = some (.int v) ∧ 0 ≤ v.toInt ∧ v.toInt ≤ 3 ∧ Iv P h' ∧ ((h.2.1 70 53).toInt ≤ (h'.2.1 70 53).toInt))) ∧ (∀ {P : PP} {h : HP} (_ : Iv P h) (a2 : Int32) (a2l : 0 ≤ a2.toInt) (a2u : a2.toInt ≤ 259) (a3 : Int32) (a3l : 0 ≤ a3.toInt) (a3u : a3.toInt ≤ 30) (hr : RD h.2.1 (h.2.1 70 6).toInt ∧ TD h.2.1 (h.2.1 70 6).toInt) (hl : (h.2.1 70 29).toInt = (h.2.1 70 6).toInt) (ckf : CKF h.2.1) (hi : II h.2.1 (h.2.1 70 6).toInt a2.toInt) (hk : V h.2.1 77 a2.toInt = 6) (hg : 30 * (30 - a3.toInt) + 3 * (7 - V h.2.1 80 a2.toInt) + 2 ≤ (nn : Int)), Mt l yX8_tries cX8_tries 4 (some .int) (d + nn + 2) [.ref 70, .int a2, .int a3] h 0 0 (fun r h' => ∃ v : Int32, r = some (.int v) ∧ 0 ≤ v.toInt ∧ v.toInt ≤ 3 ∧ Iv P h' ∧ ((h.2.1 70 53).toInt ≤ (h'.2.1 70 53).toInt))) ∧ (∀ {P : PP} {h : HP} (_ : Iv P h) (a2 : Int32) (a2l : 0 ≤ a2.toInt) (a2u : a2.toInt ≤ 259) (a3 : Int32) (a3l : 0 ≤ a3.toInt) (a3u : a3.toInt ≤ 30) (hr : RD h.2.1 (h.2.1 70 6).toInt ∧ TD h.2.1 (h.2.1 70 6).toInt) (hl : (h.2.1 70 29).toInt = (h.2.1 70 6).toInt) (ckf : CKF h.2.1) (hi : II h.2.1 (h.2.1 70 6).toInt a2.toInt) (hk : ¬ V h.2.1 77 a2.toInt = 6) (hg : 30 * (30 - a3.toInt) + 3 * (7 - V h.2.1 80 a2.toInt) + 2 ≤ (nn : Int)), Mt l yX8_does cX8_does 6 (some .int) (d + nn + 2) [.ref 70, .int a2, .int a3] h 0 0 (fun r h' => ∃ v : Int32, r = some (.int v) ∧ 0 ≤ v.toInt ∧ v.toInt ≤ 3 ∧ Iv P h' ∧ ((h.2.1 70 53).toInt ≤ (h'.2.1 70 53).toInt))) ∧ (∀ {P : PP} {h : HP} (_ : Iv P h) (a2 : Int32) (a2l : 0 ≤ a2.toInt) (a2u : a2.toInt ≤ 259) (a3 : Int32) (a3l : 0 ≤ a3.toInt) (a3u : a3.toInt ≤ 30) (hr : RD h.2.1 (h.2.1 70 6).toInt ∧ TD h.2.1 (h.2.1 70 6).toInt) (hl : (h.2.1 70 29).toInt = (h.2.1 70 6).toInt) (ckf : CKF h.2.1) (hi : II h.2.1 (h.2.1 70 6).toInt a2.toInt) (hk : V h.2.1 77 a2.toInt = 3) (hg : 30 * (30 - a3.toInt) + 3 * (7 - V h.2.1 80 a2.toInt) + 1 ≤ (nn : Int)), Mt l yX8_loops cX8_loops 5 (some .int) (d + nn + 2) [.ref 70, .int a2, .int a3] h 0 0 (fun r h' => ∃ v : Int32, r = some (.int v) ∧ 0 ≤ v.toInt ∧ v.toInt ≤ 3 ∧ Iv P h' ∧ ((h.2.1 70 53).toInt ≤ (h'.2.1 70 53).toInt))) ∧ (∀ {P : PP} {h : HP} (_ : Iv P h) (a2 : Int32) (a2l : 0 ≤ a2.toInt) (a2u : a2.toInt ≤ 259) (a3 : Int32) (a3l : 0 ≤ a3.toInt) (a3u : a3.toInt ≤ 30) (a4 : Int32) (a5 : Int32) (hr : RD h.2.1 (h.2.1 70 6).toInt ∧ TD h.2.1 (h.2.1 70 6).toInt) (hl : (h.2.1 70 29).toInt = (h.2.1 70 6).toInt) (ckf : CKF h.2.1) (hi : II h.2.1 (h.2.1 70 6).toInt a2.toInt) (hk : V h.2.1 77 a2.toInt = 1) (hg : 30 * (30 - a3.toInt) + 1 ≤ (nn : Int)), Mt l yX8_calls_ cX8_calls_ 6 (some .int) (d + nn + 2) [.ref 70, .int a2, .int a3, .int a4, .int a5] h 0 0 (fun r h' => ∃ v : Int32, r = some (.int v) ∧ 0 ≤ v.toInt ∧ v.toInt ≤ 3 ∧ Iv P h' ∧ ((h.2.1 70 53).toInt ≤ (h'.2.1 70 53).toInt))) ∧ (∀ {P : PP} {h : HP} (_ : Iv P h) (a2 : Int32) (a2l : 0 ≤ a2.toInt) (a2u : a2.toInt ≤ 4) (a3 : Int32) (a3l : 0 ≤ a3.toInt) (a3u : a3.toInt ≤ 30) (a4 : Int32) (a5 : Int32) (hr : RD h.2.1 (h.2.1 70 6).toInt ∧ TD h.2.1 (h.2.1 70 6).toInt) (hl : (h.2.1 70 29).toInt = (h.2.1 70 6).toInt) (ckf : CKF h.2.1) (hp : a2.toInt < V h.2.1 76 (h.2.1 70 6).toInt) (hg : 30 * (30 - a3.toInt) + 27 ≤ (nn : Int)), Mt l yX8_procedure cX8_procedure 6 (some .int) (d + nn + 2) [.ref 70, .int a2, .int a3, .int a4, .int a5] h 0 0 (fun r h' => ∃ v : Int32, r = some (.int v) ∧ 0 ≤ v.toInt ∧ v.toInt ≤ 3 ∧ Iv P h' ∧ ((h.2.1 70 53).toInt ≤ (h'.2.1 70 53).toInt))) := by
  intro nn
  induction nn with
  | zero =>
    refine ⟨?_, ?_, ?_, ?_, ?_, ?_⟩
    · intro P h hv a2 a2l a2u a3 a3l a3u hr hl ckf hb hm
      exfalso
      have r9 : -1 ≤ V h.2.1 92 a2.toInt := (hv.2.1 92 _).1
      have r8 : V h.2.1 80 (V h.2.1 92 a2.toInt) ≤ 6 := (hv.2.1 80 _).2
      by_cases q : V h.2.1 92 a2.toInt = -1
      · have := hm.1 q; omega
      · have := hm.2 (by omega); omega
    · intro P h hv a2 a2l a2u a3 a3l a3u hr hl ckf hi hk hm
      exfalso
      have r8 : V h.2.1 80 a2.toInt ≤ 6 := (hv.2.1 80 _).2
      omega
    · intro P h hv a2 a2l a2u a3 a3l a3u hr hl ckf hi hk hm
      exfalso
      have r8 : V h.2.1 80 a2.toInt ≤ 6 := (hv.2.1 80 _).2
      omega
    · intro P h hv a2 a2l a2u a3 a3l a3u hr hl ckf hi hk hm
      exfalso
      have r8 : V h.2.1 80 a2.toInt ≤ 6 := (hv.2.1 80 _).2
      omega
    · intro P h hv a2 a2l a2u a3 a3l a3u a4 a5 hr hl ckf hi hk hm
      exfalso
      omega
    · intro P h hv a2 a2l a2u a3 a3l a3u a4 a5 hr hl ckf hp hm
      exfalso
      omega
  | succ nn ih =>
    obtain ⟨hG, hY, hD, hL, hC, hP⟩ := ih
    exact ⟨@s_X8_goesBlock_b l (d + nn + 1) nn hD hY, @s_X8_tries_b l (d + nn + 2) nn hG, @s_X8_does_b l (d + nn + 0) nn hC hG hL, @s_X8_loops_b l (d + nn + 0) nn hG, @s_X8_calls__b l (d + nn + 1) nn hP, @s_X8_procedure_b l (d + nn + 2) nn hG⟩
theorem s_X8_procedure (l : Launch) (d : Nat) {P : PP} {h : HP} (hv : Iv P h) (a2 : Int32) (a2l : 0 ≤ a2.toInt) (a2u : a2.toInt ≤ 4) (a3 : Int32) (a3l : 0 ≤ a3.toInt) (a3u : a3.toInt ≤ 30) (a4 : Int32) (a5 : Int32) (hr : RD h.2.1 (h.2.1 70 6).toInt ∧ TD h.2.1 (h.2.1 70 6).toInt) (hl : (h.2.1 70 29).toInt = (h.2.1 70 6).toInt) (ckf : CKF h.2.1) (hp : a2.toInt < V h.2.1 76 (h.2.1 70 6).toInt) : Mt l yX8_procedure cX8_procedure 6 (some .int) (d + 932) [.ref 70, .int a2, .int a3, .int a4, .int a5] h 0 0 (fun r h' => ∃ v : Int32, r = some (.int v) ∧ 0 ≤ v.toInt ∧ v.toInt ≤ 3 ∧ Iv P h' ∧ ((h.2.1 70 53).toInt ≤ (h'.2.1 70 53).toInt)) := (b_runs l d 930).2.2.2.2.2 hv a2 a2l a2u a3 a3l a3u a4 a5 hr hl ckf hp (by omega)
theorem dX8_run_0 : decode cX8_run 0 = .ok (.aload_n 0, 1) := by decide +kernel
theorem dX8_run_1 : decode cX8_run 1 = .ok (.getfield 243, 3) := by decide +kernel
theorem dX8_run_4 : decode cX8_run 4 = .ok (.ifCond .eq 15, 3) := by decide +kernel
theorem dX8_run_7 : decode cX8_run 7 = .ok (.aload_n 0, 1) := by decide +kernel
theorem dX8_run_8 : decode cX8_run 8 = .ok (.ldc2_w 329, 3) := by decide +kernel
theorem dX8_run_11 : decode cX8_run 11 = .ok (.iload_n 1, 1) := by decide +kernel
theorem dX8_run_12 : decode cX8_run 12 = .ok (.iload_n 2, 1) := by decide +kernel
theorem dX8_run_13 : decode cX8_run 13 = .ok (.invokevirtual 462, 3) := by decide +kernel
theorem dX8_run_16 : decode cX8_run 16 = .ok (.goto 4, 3) := by decide +kernel
theorem dX8_run_19 : decode cX8_run 19 = .ok (.iconst (-1), 1) := by decide +kernel
theorem dX8_run_20 : decode cX8_run 20 = .ok (.ireturn, 1) := by decide +kernel
theorem dX8_runKept_0 : decode cX8_runKept 0 = .ok (.aload_n 0, 1) := by decide +kernel
theorem dX8_runKept_1 : decode cX8_runKept 1 = .ok (.iload_n 1, 1) := by decide +kernel
theorem dX8_runKept_2 : decode cX8_runKept 2 = .ok (.invokevirtual 389, 3) := by decide +kernel
theorem dX8_runKept_5 : decode cX8_runKept 5 = .ok (.ifCond .eq 17, 3) := by decide +kernel
theorem dX8_runKept_8 : decode cX8_runKept 8 = .ok (.aload_n 0, 1) := by decide +kernel
theorem dX8_runKept_9 : decode cX8_runKept 9 = .ok (.aload_n 0, 1) := by decide +kernel
theorem dX8_runKept_10 : decode cX8_runKept 10 = .ok (.iload_n 1, 1) := by decide +kernel
theorem dX8_runKept_11 : decode cX8_runKept 11 = .ok (.invokevirtual 413, 3) := by decide +kernel
theorem dX8_runKept_14 : decode cX8_runKept 14 = .ok (.iload_n 2, 1) := by decide +kernel
theorem dX8_runKept_15 : decode cX8_runKept 15 = .ok (.iload_n 3, 1) := by decide +kernel
theorem dX8_runKept_16 : decode cX8_runKept 16 = .ok (.invokevirtual 462, 3) := by decide +kernel
theorem dX8_runKept_19 : decode cX8_runKept 19 = .ok (.goto 4, 3) := by decide +kernel
theorem dX8_runKept_22 : decode cX8_runKept 22 = .ok (.iconst (-1), 1) := by decide +kernel
theorem dX8_runKept_23 : decode cX8_runKept 23 = .ok (.ireturn, 1) := by decide +kernel
theorem dX8_runs_0 : decode cX8_runs 0 = .ok (.aload_n 0, 1) := by decide +kernel
theorem dX8_runs_1 : decode cX8_runs 1 = .ok (.aload_n 0, 1) := by decide +kernel
theorem dX8_runs_2 : decode cX8_runs 2 = .ok (.getfield 228, 3) := by decide +kernel
theorem dX8_runs_5 : decode cX8_runs 5 = .ok (.putfield 187, 3) := by decide +kernel
theorem dX8_runs_8 : decode cX8_runs 8 = .ok (.aload_n 0, 1) := by decide +kernel
theorem dX8_runs_9 : decode cX8_runs 9 = .ok (.lload_n 1, 1) := by decide +kernel
theorem dX8_runs_10 : decode cX8_runs 10 = .ok (.putfield 424, 3) := by decide +kernel
theorem dX8_runs_13 : decode cX8_runs 13 = .ok (.aload_n 0, 1) := by decide +kernel
theorem dX8_runs_14 : decode cX8_runs 14 = .ok (.iconst 0, 1) := by decide +kernel
theorem dX8_runs_15 : decode cX8_runs 15 = .ok (.putfield 437, 3) := by decide +kernel
theorem dX8_runs_18 : decode cX8_runs 18 = .ok (.aload_n 0, 1) := by decide +kernel
theorem dX8_runs_19 : decode cX8_runs 19 = .ok (.iconst 0, 1) := by decide +kernel
theorem dX8_runs_20 : decode cX8_runs 20 = .ok (.putfield 418, 3) := by decide +kernel
theorem dX8_runs_23 : decode cX8_runs 23 = .ok (.iconst 0, 1) := by decide +kernel
theorem dX8_runs_24 : decode cX8_runs 24 = .ok (.istore 5, 2) := by decide +kernel
theorem dX8_runs_26 : decode cX8_runs 26 = .ok (.iload 5, 2) := by decide +kernel
theorem dX8_runs_28 : decode cX8_runs 28 = .ok (.iconst 4, 1) := by decide +kernel
theorem dX8_runs_29 : decode cX8_runs 29 = .ok (.if_icmp .ge 17, 3) := by decide +kernel
theorem dX8_runs_32 : decode cX8_runs 32 = .ok (.aload_n 0, 1) := by decide +kernel
theorem dX8_runs_33 : decode cX8_runs 33 = .ok (.getfield 139, 3) := by decide +kernel
theorem dX8_runs_36 : decode cX8_runs 36 = .ok (.iload 5, 2) := by decide +kernel
theorem dX8_runs_38 : decode cX8_runs 38 = .ok (.iconst 0, 1) := by decide +kernel
theorem dX8_runs_39 : decode cX8_runs 39 = .ok (.iastore, 1) := by decide +kernel
theorem dX8_runs_40 : decode cX8_runs 40 = .ok (.iinc 5 1, 3) := by decide +kernel
theorem dX8_runs_43 : decode cX8_runs 43 = .ok (.goto (-17), 3) := by decide +kernel
theorem dX8_runs_46 : decode cX8_runs 46 = .ok (.aload_n 0, 1) := by decide +kernel
theorem dX8_runs_47 : decode cX8_runs 47 = .ok (.iconst 0, 1) := by decide +kernel
theorem dX8_runs_48 : decode cX8_runs 48 = .ok (.iconst 0, 1) := by decide +kernel
theorem dX8_runs_49 : decode cX8_runs 49 = .ok (.iload_n 3, 1) := by decide +kernel
theorem dX8_runs_50 : decode cX8_runs 50 = .ok (.iload 4, 2) := by decide +kernel
theorem dX8_runs_52 : decode cX8_runs 52 = .ok (.invokevirtual 457, 3) := by decide +kernel
theorem dX8_runs_55 : decode cX8_runs 55 = .ok (.istore 5, 2) := by decide +kernel
theorem dX8_runs_57 : decode cX8_runs 57 = .ok (.aload_n 0, 1) := by decide +kernel
theorem dX8_runs_58 : decode cX8_runs 58 = .ok (.iconst 1, 1) := by decide +kernel
theorem dX8_runs_59 : decode cX8_runs 59 = .ok (.putfield 247, 3) := by decide +kernel
theorem dX8_runs_62 : decode cX8_runs 62 = .ok (.aload_n 0, 1) := by decide +kernel
theorem dX8_runs_63 : decode cX8_runs 63 = .ok (.iload 5, 2) := by decide +kernel
theorem dX8_runs_65 : decode cX8_runs 65 = .ok (.iconst 1, 1) := by decide +kernel
theorem dX8_runs_66 : decode cX8_runs 66 = .ok (.isub, 1) := by decide +kernel
theorem dX8_runs_67 : decode cX8_runs 67 = .ok (.putfield 459, 3) := by decide +kernel
theorem dX8_runs_70 : decode cX8_runs 70 = .ok (.iload 5, 2) := by decide +kernel
theorem dX8_runs_72 : decode cX8_runs 72 = .ok (.iconst 3, 1) := by decide +kernel
theorem dX8_runs_73 : decode cX8_runs 73 = .ok (.if_icmp .ne 8, 3) := by decide +kernel
theorem dX8_runs_76 : decode cX8_runs 76 = .ok (.aload_n 0, 1) := by decide +kernel
theorem dX8_runs_77 : decode cX8_runs 77 = .ok (.iconst 0, 1) := by decide +kernel
theorem dX8_runs_78 : decode cX8_runs 78 = .ok (.putfield 434, 3) := by decide +kernel
theorem dX8_runs_81 : decode cX8_runs 81 = .ok (.aload_n 0, 1) := by decide +kernel
theorem dX8_runs_82 : decode cX8_runs 82 = .ok (.getfield 459, 3) := by decide +kernel
theorem dX8_runs_85 : decode cX8_runs 85 = .ok (.ireturn, 1) := by decide +kernel
set_option maxHeartbeats 4000000 in
set_option maxRecDepth 100000 in
theorem s_X8_runs (l : Launch) (d : Nat) {P : PP} {h : HP} (hv : Iv P h) (a2 : Int64) (a3 : Int32) (a4 : Int32) (ckf : CKF h.2.1) (hlv : RD h.2.1 (h.2.1 70 29).toInt ∧ TD h.2.1 (h.2.1 70 29).toInt ∧ 1 ≤ V h.2.1 76 (h.2.1 70 29).toInt) : Mt l yX8_runs cX8_runs 6 (some .int) (d + 933) [.ref 70, .long a2, .int a3, .int a4] h 0 0 (fun r h' => ∃ v : Int32, r = some (.int v) ∧ -2147483648 ≤ v.toInt ∧ v.toInt ≤ 2147483647 ∧ Iv (gs P) h') := by
  refine Mt_iv hv (by decide) (Nat.le_of_ble_eq_true rfl) ?_
  show Go l RX8 cX8_runs 6 (g_rm (d + 933) 0 0) "runs" (some .int) 117 0 0 (fun _ _ => True) (fun r h' => ∃ v : Int32, r = some (.int v) ∧ -2147483648 ≤ v.toInt ∧ v.toInt ≤ 2147483647 ∧ Iv (gs P) h') 0 0 [(0, .ref 70), (1, .long a2), (3, .int a3), (4, .int a4)] [] h
  have key : ∀ n : Nat, (∀ (l3 : Int32) (l4 : Int32) (l5 : Int32) (hx : HP), Iv (gs P) hx → 0 ≤ l5.toInt → l5.toInt ≤ 4 → (3 * (4 - l5.toInt) + 2 : Int) < n → Go l RX8 cX8_runs 6 (g_rm (d + 933) 0 0) "runs" (some .int) 117 0 0 (fun _ _ => True) (fun r h' => ∃ v : Int32, r = some (.int v) ∧ -2147483648 ≤ v.toInt ∧ v.toInt ≤ 2147483647 ∧ Iv (gs P) h') 0 26 [(0, .ref 70), (3, .int l3), (4, .int l4), (5, .int l5)] [] hx) := by
    intro n
    induction n with
    | zero => exact (by intros; omega)
    | succ n ih =>
      refine ?_
      ·
        intro l3 l4 l5 hx hvx l5l l5u hm
        refine go_iload (pc := 26) rfl dX8_runs_26 ?_
        refine go_iconst (pc := 28) (v := 4) (by decide) dX8_runs_28 ?_
        refine gf_icmp_ge (pc := 29) (tgt := 46) (ti_rfl l5) (ti_c (v := 4) (a := 4) (by decide)) (by decide) dX8_runs_29 (fun q1 => ?_) (fun q1 => ?_)
        ·
          refine go_aload_n (pc := 46) rfl dX8_runs_46 ?_
          refine go_iconst (pc := 47) (v := 0) (by decide) dX8_runs_47 ?_
          refine go_iconst (pc := 48) (v := 0) (by decide) dX8_runs_48 ?_
          refine go_iload_n (pc := 49) rfl dX8_runs_49 ?_
          refine go_iload (pc := 50) rfl dX8_runs_50 ?_
          refine go_invV (pc := 52) (sl := 0) (s_X8_procedure l (d + 0) hvx 0 (by rw [show (0 : Int32).toInt = 0 from (ti_c (v := 0) (a := 0) (by decide))]; omega) (by rw [show (0 : Int32).toInt = 0 from (ti_c (v := 0) (a := 0) (by decide))]; omega) 0 (by rw [show (0 : Int32).toInt = 0 from (ti_c (v := 0) (a := 0) (by decide))]; omega) (by rw [show (0 : Int32).toInt = 0 from (ti_c (v := 0) (a := 0) (by decide))]; omega) l3 l4 (by rw [gs6 hv hvx]; exact ⟨RD.ve (VE.ofgs hv hvx) hlv.1, TD.kx (KX.ve (m := 102) (by omega) (VE.ofgs hv hvx)) (by omega) hlv.2.1⟩) (by rw [gs6 hv hvx, gs29 hv hvx]) (CKF.ve (VE.ofgs hv hvx) ckf) (by rw [gs6 hv hvx, VE.v (VE.ofgs hv hvx) (by omega) (by omega)]; have e : (0 : Int32).toInt = 0 := (by decide); rw [e]; have q := hlv.2.2; omega)) mL_X8_457 iM_X8_procedure sM_X8_procedure (hvx.sh rfl) rfl rfl rfl (Nat.le_of_ble_eq_true rfl) (show d + 0 + 932 + 1 ≤ d + 933 by omega) (show 8 + (6 + 11) + 40 * (d + 0 + 932) ≤ 40 * (d + 933) by omega) (g_c0 hvx.ln) (Nat.le_of_ble_eq_true rfl) dX8_runs_52 ?_
          intro r h2 hq _
          obtain ⟨v4, rfl, v4l, v4u, hv2, f3⟩ := hq
          try rw [show (0 : Int32).toInt = 0 from (ti_c (v := 0) (a := 0) (by decide))] at f3
          try rw [show (0 : Int32).toInt = 0 from (ti_c (v := 0) (a := 0) (by decide))] at f3
          refine go_istore (pc := 55) (Nat.le_of_ble_eq_true rfl) dX8_runs_55 (go_lv (lv2 := [(0, .ref 70), (3, .int l3), (4, .int l4), (5, .int v4)]) rfl ?_)
          refine go_aload_n (pc := 57) rfl dX8_runs_57 ?_
          refine go_iconst (pc := 58) (v := 1) (by decide) dX8_runs_58 ?_
          refine gi_put (pc := 59) (lo := 0) (hi := 1) hv2 (ti_c (v := 1) (a := 1) (by decide)) (fP_X8_247 _) rfl (Nat.le_of_ble_eq_true rfl) rfl rfl (by omega) (by omega) (ti_nb (by rw [show (1 : Int32).toInt = 1 from (ti_c (v := 1) (a := 1) (by decide))]; omega) (by rw [show (1 : Int32).toInt = 1 from (ti_c (v := 1) (a := 1) (by decide))]; omega)) (ti_fb (by rw [show (1 : Int32).toInt = 1 from (ti_c (v := 1) (a := 1) (by decide))]; omega) (by rw [show (1 : Int32).toInt = 1 from (ti_c (v := 1) (a := 1) (by decide))]; omega)) (by decide) (by decide) (by decide) (by decide) dX8_runs_59 (fun h5 hv5 hv5e => ?_)
          refine go_aload_n (pc := 62) rfl dX8_runs_62 ?_
          refine go_iload (pc := 63) rfl dX8_runs_63 ?_
          refine go_iconst (pc := 65) (v := 1) (by decide) dX8_runs_65 ?_
          refine gf_isub (pc := 66) (ti_rfl v4) (ti_c (v := 1) (a := 1) (by decide)) (by omega) (by omega) dX8_runs_66 (fun v6 e7 => ?_)
          refine gi_put (pc := 67) (lo := -2147483648) (hi := 2147483647) hv5 e7 (fP_X8_459 _) rfl (Nat.le_of_ble_eq_true rfl) rfl rfl (ti_ge e7) (ti_le2 e7) rfl rfl (by decide) (by decide) (by decide) (by decide) dX8_runs_67 (fun h8 hv8 hv8e => ?_)
          refine go_iload (pc := 70) rfl dX8_runs_70 ?_
          refine go_iconst (pc := 72) (v := 3) (by decide) dX8_runs_72 ?_
          refine gf_icmp_ne (pc := 73) (tgt := 81) (ti_rfl v4) (ti_c (v := 3) (a := 3) (by decide)) (by decide) dX8_runs_73 (fun q9 => ?_) (fun q9 => ?_)
          ·
            refine go_aload_n (pc := 81) rfl dX8_runs_81 ?_
            refine gi_get (pc := 82) (lo := -2147483648) (hi := 2147483647) hv8 fL_X8_459 rfl (Nat.le_of_ble_eq_true rfl) rfl rfl dX8_runs_82 (fun v10 v10l v10u v10w => ?_)
            have v10r : v6 = h8.2.1 70 51 := (show v6 = h8.2.1 70 51 from by rw [hv8e]; exact g_iS.symm)
            have v10q : TI v10 ((v4.toInt - 1)) := by rw [v10w.trans v10r.symm]; exact e7
            exact gi_iret (pc := 85) v10q ⟨_, rfl, (ti_lo _), (ti_hi _), hv8⟩ hv8 dX8_runs_85
          ·
            refine go_aload_n (pc := 76) rfl dX8_runs_76 ?_
            refine go_iconst (pc := 77) (v := 0) (by decide) dX8_runs_77 ?_
            refine gi_put (pc := 78) (lo := -2147483648) (hi := 2147483647) hv8 (ti_c (v := 0) (a := 0) (by decide)) (fP_X8_434 _) rfl (Nat.le_of_ble_eq_true rfl) rfl rfl (ti_ge (ti_c (v := 0) (a := 0) (by decide))) (ti_le2 (ti_c (v := 0) (a := 0) (by decide))) rfl rfl (by decide) (by decide) (by decide) (by decide) dX8_runs_78 (fun h11 hv11 hv11e => ?_)
            refine go_aload_n (pc := 81) rfl dX8_runs_81 ?_
            refine gi_get (pc := 82) (lo := -2147483648) (hi := 2147483647) hv11 fL_X8_459 rfl (Nat.le_of_ble_eq_true rfl) rfl rfl dX8_runs_82 (fun v12 v12l v12u v12w => ?_)
            have v12r : v6 = h11.2.1 70 51 := (show v6 = h11.2.1 70 51 from by rw [hv11e]; exact (g_iI rfl (show v6 = h8.2.1 70 51 from by rw [hv8e]; exact g_iS.symm).symm).symm)
            have v12q : TI v12 ((v4.toInt - 1)) := by rw [v12w.trans v12r.symm]; exact e7
            exact gi_iret (pc := 85) v12q ⟨_, rfl, (ti_lo _), (ti_hi _), hv11⟩ hv11 dX8_runs_85
        ·
          refine go_aload_n (pc := 32) rfl dX8_runs_32 ?_
          refine gi_getF (pc := 33) (q := 113) hvx fL_X8_139 rfl (Nat.le_of_ble_eq_true rfl) rfl (hvx.rf (by decide)) dX8_runs_33 ?_
          refine go_iload (pc := 36) rfl dX8_runs_36 ?_
          refine go_iconst (pc := 38) (v := 0) (by decide) dX8_runs_38 ?_
          refine gi_iast (pc := 39) (lo := -2147483648) (hi := 2147483647) (len := 4) hvx (ti_rfl l5) (ti_c (v := 0) (a := 0) (by decide)) rfl (by omega) (by omega) (fun _ => rfl) (ti_ge (ti_c (v := 0) (a := 0) (by decide))) (ti_le2 (ti_c (v := 0) (a := 0) (by decide))) (by decide) dX8_runs_39 (fun h13 hv13 hv13e => ?_)
          refine gf_iinc (pc := 40) (Nat.le_of_ble_eq_true rfl) rfl (ti_rfl l5) (ti_c (by decide)) (by omega) (by omega) dX8_runs_40 (fun v14 e15 => ?_)
          refine go_lv (lv2 := [(0, .ref 70), (3, .int l3), (4, .int l4), (5, .int v14)]) rfl ?_
          refine go_goto (pc := 43) (tgt := 26) (by decide) dX8_runs_43 ?_
          have z16 : (v14 : Int32).toInt = (l5.toInt + 1) := e15
          exact go_lv rfl (ih l3 l4 v14 h13 hv13 (by omega) (by omega) (by omega))
  refine go_aload_n (pc := 0) rfl dX8_runs_0 ?_
  refine go_aload_n (pc := 1) rfl dX8_runs_1 ?_
  refine gi_get (pc := 2) (lo := 0) (hi := 1) hv fL_X8_228 rfl (Nat.le_of_ble_eq_true rfl) rfl rfl dX8_runs_2 (fun v17 v17l v17u v17w => ?_)
  refine gi_putS (pc := 5) hv v17w (fP_X8_187 _) dX8_runs_5 (fun h18 hv18 hv18e => ?_)
  refine go_aload_n (pc := 8) rfl dX8_runs_8 ?_
  refine go_lload_n (pc := 9) rfl dX8_runs_9 ?_
  refine gi_putL (pc := 10) hv18 (fP_X8_424 _) rfl (Nat.le_of_ble_eq_true rfl) rfl rfl rfl dX8_runs_10 (fun h19 hv19 hv19e => ?_)
  refine go_aload_n (pc := 13) rfl dX8_runs_13 ?_
  refine go_iconst (pc := 14) (v := 0) (by decide) dX8_runs_14 ?_
  refine gi_put (pc := 15) (lo := 0) (hi := 3000) hv19 (ti_c (v := 0) (a := 0) (by decide)) (fP_X8_437 _) rfl (Nat.le_of_ble_eq_true rfl) rfl rfl (by omega) (by omega) rfl rfl (by decide) (by decide) (by decide) (by decide) dX8_runs_15 (fun h20 hv20 hv20e => ?_)
  refine go_aload_n (pc := 18) rfl dX8_runs_18 ?_
  refine go_iconst (pc := 19) (v := 0) (by decide) dX8_runs_19 ?_
  refine gi_put (pc := 20) (lo := 0) (hi := 500) hv20 (ti_c (v := 0) (a := 0) (by decide)) (fP_X8_418 _) rfl (Nat.le_of_ble_eq_true rfl) rfl rfl (by omega) (by omega) rfl rfl (by decide) (by decide) (by decide) (by decide) dX8_runs_20 (fun h21 hv21 hv21e => ?_)
  refine go_iconst (pc := 23) (v := 0) (by decide) dX8_runs_23 ?_
  refine go_istore (pc := 24) (Nat.le_of_ble_eq_true rfl) dX8_runs_24 (go_lv (lv2 := [(0, .ref 70), (1, .long a2), (3, .int a3), (4, .int a4), (5, .int 0)]) rfl ?_)
  have z22 : (0 : Int32).toInt = 0 := (ti_c (v := 0) (a := 0) (by decide))
  exact go_lv rfl ((key 31) a3 a4 0 h21 hv21 (by omega) (by omega) (by omega))
set_option maxHeartbeats 4000000 in
set_option maxRecDepth 100000 in
theorem s_X8_run (l : Launch) (d : Nat) {P : PP} {h : HP} (hv : Iv P h) (a2 : Int32) (a3 : Int32) (ckf : CKF h.2.1) (hlv : LV h.2.1) : Mt l yX8_run cX8_run 3 (some .int) (d + 934) [.ref 70, .int a2, .int a3] h 0 0 (fun r h' => ∃ v : Int32, r = some (.int v) ∧ -2147483648 ≤ v.toInt ∧ v.toInt ≤ 2147483647 ∧ (∃ Q : PP, Iv Q h' ∧ SQ P Q)) := by
  refine Mt_iv hv (by decide) (Nat.le_of_ble_eq_true rfl) ?_
  show Go l RX8 cX8_run 3 (g_rm (d + 934) 0 0) "run" (some .int) 117 0 0 (fun _ _ => True) (fun r h' => ∃ v : Int32, r = some (.int v) ∧ -2147483648 ≤ v.toInt ∧ v.toInt ≤ 2147483647 ∧ (∃ Q : PP, Iv Q h' ∧ SQ P Q)) 0 0 [(0, .ref 70), (1, .int a2), (2, .int a3)] [] h
  refine go_aload_n (pc := 0) rfl dX8_run_0 ?_
  refine gi_get (pc := 1) (lo := 0) (hi := 1) hv fL_X8_243 rfl (Nat.le_of_ble_eq_true rfl) rfl rfl dX8_run_1 (fun v1 v1l v1u v1w => ?_)
  refine gf_if_eq (pc := 4) (tgt := 19) (ti_rfl v1) (by decide) dX8_run_4 (fun q2 => ?_) (fun q2 => ?_)
  ·
    refine go_iconst (pc := 19) (v := (-1)) (by decide) dX8_run_19 ?_
    exact gi_iret (pc := 20) (ti_c (v := (-1)) (a := (-1)) (by decide)) ⟨_, rfl, (ti_lo _), (ti_hi _), ⟨_, hv, (SQ.rfl _)⟩⟩ hv dX8_run_20
  ·
    refine go_aload_n (pc := 7) rfl dX8_run_7 ?_
    refine go_ldc2 (pc := 8) kL_X8_329 dX8_run_8 ?_
    refine go_iload_n (pc := 11) rfl dX8_run_11 ?_
    refine go_iload_n (pc := 12) rfl dX8_run_12 ?_
    refine go_invV (pc := 13) (sl := 0) (s_X8_runs l (d + 0) hv ((-1) : Int64) a2 a3 ckf (hlv (by rw [← v1w]; omega))) mL_X8_462 iM_X8_runs sM_X8_runs (hv.sh rfl) rfl rfl rfl (Nat.le_of_ble_eq_true rfl) (show d + 0 + 933 + 1 ≤ d + 934 by omega) (show 8 + (6 + 11) + 40 * (d + 0 + 933) ≤ 40 * (d + 934) by omega) (g_c0 hv.ln) (Nat.le_of_ble_eq_true rfl) dX8_run_13 ?_
    intro r h3 hq _
    obtain ⟨v4, rfl, v4l, v4u, hv3⟩ := hq
    refine go_goto (pc := 16) (tgt := 20) (by decide) dX8_run_16 ?_
    exact gi_iret (pc := 20) (ti_rfl v4) ⟨_, rfl, (ti_lo _), (ti_hi _), ⟨_, hv3, (SQ.ofgs _)⟩⟩ hv3 dX8_run_20
set_option maxHeartbeats 4000000 in
set_option maxRecDepth 100000 in
theorem s_X8_runKept (l : Launch) (d : Nat) {P : PP} {h : HP} (hv : Iv P h) (a2 : Int32) (a3 : Int32) (a4 : Int32) (ckf : CKF h.2.1) (hlv : LV h.2.1) : Mt l yX8_runKept cX8_runKept 4 (some .int) (d + 934) [.ref 70, .int a2, .int a3, .int a4] h 0 0 (fun r h' => ∃ v : Int32, r = some (.int v) ∧ -2147483648 ≤ v.toInt ∧ v.toInt ≤ 2147483647 ∧ (∃ Q : PP, Iv Q h' ∧ SQ P Q)) := by
  refine Mt_iv hv (by decide) (Nat.le_of_ble_eq_true rfl) ?_
  show Go l RX8 cX8_runKept 4 (g_rm (d + 934) 0 0) "runKept" (some .int) 117 0 0 (fun _ _ => True) (fun r h' => ∃ v : Int32, r = some (.int v) ∧ -2147483648 ≤ v.toInt ∧ v.toInt ≤ 2147483647 ∧ (∃ Q : PP, Iv Q h' ∧ SQ P Q)) 0 0 [(0, .ref 70), (1, .int a2), (2, .int a3), (3, .int a4)] [] h
  refine go_aload_n (pc := 0) rfl dX8_runKept_0 ?_
  refine go_iload_n (pc := 1) rfl dX8_runKept_1 ?_
  refine go_invV (pc := 2) (sl := 0) (s_X8_isStatement_x l (d + 931) hv a2) mL_X8_389 iM_X8_isStatement sM_X8_isStatement (hv.sh rfl) rfl rfl rfl (Nat.le_of_ble_eq_true rfl) (show d + 931 + 2 + 1 ≤ d + 934 by omega) (show 8 + (2 + 11) + 40 * (d + 931 + 2) ≤ 40 * (d + 934) by omega) (g_c0 hv.ln) (Nat.le_of_ble_eq_true rfl) dX8_runKept_2 ?_
  intro r h1 hq _
  obtain ⟨v3, rfl, v3l, v3u, rfl, f4, f2⟩ := hq
  refine gf_if_eq (pc := 5) (tgt := 22) (ti_rfl v3) (by decide) dX8_runKept_5 (fun q5 => ?_) (fun q5 => ?_)
  ·
    refine go_iconst (pc := 22) (v := (-1)) (by decide) dX8_runKept_22 ?_
    exact gi_iret (pc := 23) (ti_c (v := (-1)) (a := (-1)) (by decide)) ⟨_, rfl, (ti_lo _), (ti_hi _), ⟨_, hv, (SQ.rfl _)⟩⟩ hv dX8_runKept_23
  ·
    refine go_aload_n (pc := 8) rfl dX8_runKept_8 ?_
    refine go_aload_n (pc := 9) rfl dX8_runKept_9 ?_
    refine go_iload_n (pc := 10) rfl dX8_runKept_10 ?_
    refine go_invV (pc := 11) (sl := 0) (s_X8_keptFor l (d + 927) hv a2 (by rw [show (a2 : Int32).toInt = a2.toInt from (ti_rfl a2)]; omega) (by rw [show (a2 : Int32).toInt = a2.toInt from (ti_rfl a2)]; omega) ckf) mL_X8_413 iM_X8_keptFor sM_X8_keptFor (hv.sh rfl) rfl rfl rfl (Nat.le_of_ble_eq_true rfl) (show d + 927 + 6 + 1 ≤ d + 934 by omega) (show 8 + (6 + 11) + 40 * (d + 927 + 6) ≤ 40 * (d + 934) by omega) (g_c0 hv.ln) (Nat.le_of_ble_eq_true rfl) dX8_runKept_11 ?_
    intro r h6 hq _
    obtain ⟨v7, rfl, hv6⟩ := hq
    refine go_iload_n (pc := 14) rfl dX8_runKept_14 ?_
    refine go_iload_n (pc := 15) rfl dX8_runKept_15 ?_
    refine go_invV (pc := 16) (sl := 0) (s_X8_runs l (d + 0) hv6 v7 a3 a4 (CKF.ve (VE.ofgs hv hv6) ckf) (LV.ofgs hv hv6 hlv (by rw [gs30 hv hv6]; exact (f2 (by omega)).1))) mL_X8_462 iM_X8_runs sM_X8_runs (hv6.sh rfl) rfl rfl rfl (Nat.le_of_ble_eq_true rfl) (show d + 0 + 933 + 1 ≤ d + 934 by omega) (show 8 + (6 + 11) + 40 * (d + 0 + 933) ≤ 40 * (d + 934) by omega) (g_c0 hv6.ln) (Nat.le_of_ble_eq_true rfl) dX8_runKept_16 ?_
    intro r h8 hq _
    obtain ⟨v9, rfl, v9l, v9u, hv8⟩ := hq
    refine go_goto (pc := 19) (tgt := 23) (by decide) dX8_runKept_19 ?_
    exact gi_iret (pc := 23) (ti_rfl v9) ⟨_, rfl, (ti_lo _), (ti_hi _), ⟨_, hv8, (SQ.trans (SQ.ofgs _) (SQ.ofgs _))⟩⟩ hv8 dX8_runKept_23
