/-- the reference's runs, nn calls of one another deep: block, try, statement, loop, call, procedure -/
def m_R : Nat → (ST → Int → Int → ST × Int) × (ST → Int → Int → ST × Int) × (ST → Int → Int → ST × Int) × (ST → Int → Int → ST × Int) × (ST → Int → Int → Int → Int → ST × Int) × (ST → Int → Int → Int → Int → ST × Int)
  | 0 => (fun s _ _ => (s, 0), fun s _ _ => (s, 0), fun s _ _ => (s, 0), fun s _ _ => (s, 0), fun s _ _ _ _ => (s, 0), fun s _ _ _ _ => (s, 0))
  | t + 1 => (f_X8_goesBlock_b (m_R t).2.2.1 (m_R t).2.1, f_X8_tries_b (m_R t).1, f_X8_does_b (m_R t).2.2.2.2.1 (m_R t).1 (m_R t).2.2.2.1, f_X8_loops_b (m_R t).1, f_X8_calls__b (m_R t).2.2.2.2.2, f_X8_procedure_b (m_R t).1)
def f_X8_procedure : ST → Int → Int → Int → Int → ST × Int := (m_R 930).2.2.2.2.2
theorem b_runs_f (l : Launch) (d : Nat) : ∀ nn : Nat, (∀ {P : PP} {h : HP} (_ : Iv P h) (a2 : Int32) (a2l : 0 ≤ a2.toInt) (a2u : a2.toInt ≤ 559) (a3 : Int32) (a3l : 0 ≤ a3.toInt) (a3u : a3.toInt ≤ 30) (hr : RD h.2.1 (h.2.1 70 6).toInt ∧ TD h.2.1 (h.2.1 70 6).toInt) (hl : (h.2.1 70 29).toInt = (h.2.1 70 6).toInt) (ckf : CKF h.2.1) (hb : BB h.2.1 (h.2.1 70 6).toInt a2.toInt) (hg : (V h.2.1 92 a2.toInt = -1 → 30 * (30 - a3.toInt) + 24 ≤ (nn : Int)) ∧ (0 ≤ V h.2.1 92 a2.toInt → 30 * (30 - a3.toInt) + 3 * (6 - V h.2.1 80 (V h.2.1 92 a2.toInt)) + 3 ≤ (nn : Int))), Mt l yX8_goesBlock cX8_goesBlock 5 (some .int) (d + nn + 2) [.ref 70, .int a2, .int a3] h 0 0 (fun r h' => ∃ v : Int32, r = some (.int v) ∧ 0 ≤ v.toInt ∧ v.toInt ≤ 3 ∧ Iv P h' ∧ ((h.2.1 70 53).toInt ≤ (h'.2.1 70 53).toInt) ∧ ((st h', v.toInt) = (m_R nn).1 (st h) a2.toInt a3.toInt) ∧ (FX KAq h h'))) ∧ (∀ {P : PP} {h : HP} (_ : Iv P h) (a2 : Int32) (a2l : 0 ≤ a2.toInt) (a2u : a2.toInt ≤ 259) (a3 : Int32) (a3l : 0 ≤ a3.toInt) (a3u : a3.toInt ≤ 30) (hr : RD h.2.1 (h.2.1 70 6).toInt ∧ TD h.2.1 (h.2.1 70 6).toInt) (hl : (h.2.1 70 29).toInt = (h.2.1 70 6).toInt) (ckf : CKF h.2.1) (hi : II h.2.1 (h.2.1 70 6).toInt a2.toInt) (hk : V h.2.1 77 a2.toInt = 6) (hg : 30 * (30 - a3.toInt) + 3 * (7 - V h.2.1 80 a2.toInt) + 2 ≤ (nn : Int)), Mt l yX8_tries cX8_tries 4 (some .int) (d + nn + 2) [.ref 70, .int a2, .int a3] h 0 0 (fun r h' => ∃ v : Int32, r = some (.int v) ∧ 0 ≤ v.toInt ∧ v.toInt ≤ 3 ∧ Iv P h' ∧ ((h.2.1 70 53).toInt ≤ (h'.2.1 70 53).toInt) ∧ ((st h', v.toInt) = (m_R nn).2.1 (st h) a2.toInt a3.toInt) ∧ (FX KAq h h'))) ∧ (∀ {P : PP} {h : HP} (_ : Iv P h) (a2 : Int32) (a2l : 0 ≤ a2.toInt) (a2u : a2.toInt ≤ 259) (a3 : Int32) (a3l : 0 ≤ a3.toInt) (a3u : a3.toInt ≤ 30) (hr : RD h.2.1 (h.2.1 70 6).toInt ∧ TD h.2.1 (h.2.1 70 6).toInt) (hl : (h.2.1 70 29).toInt = (h.2.1 70 6).toInt) (ckf : CKF h.2.1) (hi : II h.2.1 (h.2.1 70 6).toInt a2.toInt) (hk : ¬ V h.2.1 77 a2.toInt = 6) (hg : 30 * (30 - a3.toInt) + 3 * (7 - V h.2.1 80 a2.toInt) + 2 ≤ (nn : Int)), Mt l yX8_does cX8_does 6 (some .int) (d + nn + 2) [.ref 70, .int a2, .int a3] h 0 0 (fun r h' => ∃ v : Int32, r = some (.int v) ∧ 0 ≤ v.toInt ∧ v.toInt ≤ 3 ∧ Iv P h' ∧ ((h.2.1 70 53).toInt ≤ (h'.2.1 70 53).toInt) ∧ ((st h', v.toInt) = (m_R nn).2.2.1 (st h) a2.toInt a3.toInt) ∧ (FX KAq h h'))) ∧ (∀ {P : PP} {h : HP} (_ : Iv P h) (a2 : Int32) (a2l : 0 ≤ a2.toInt) (a2u : a2.toInt ≤ 259) (a3 : Int32) (a3l : 0 ≤ a3.toInt) (a3u : a3.toInt ≤ 30) (hr : RD h.2.1 (h.2.1 70 6).toInt ∧ TD h.2.1 (h.2.1 70 6).toInt) (hl : (h.2.1 70 29).toInt = (h.2.1 70 6).toInt) (ckf : CKF h.2.1) (hi : II h.2.1 (h.2.1 70 6).toInt a2.toInt) (hk : V h.2.1 77 a2.toInt = 3) (hg : 30 * (30 - a3.toInt) + 3 * (7 - V h.2.1 80 a2.toInt) + 1 ≤ (nn : Int)), Mt l yX8_loops cX8_loops 5 (some .int) (d + nn + 2) [.ref 70, .int a2, .int a3] h 0 0 (fun r h' => ∃ v : Int32, r = some (.int v) ∧ 0 ≤ v.toInt ∧ v.toInt ≤ 3 ∧ Iv P h' ∧ ((h.2.1 70 53).toInt ≤ (h'.2.1 70 53).toInt) ∧ ((st h', v.toInt) = (m_R nn).2.2.2.1 (st h) a2.toInt a3.toInt) ∧ (FX KAq h h'))) ∧ (∀ {P : PP} {h : HP} (_ : Iv P h) (a2 : Int32) (a2l : 0 ≤ a2.toInt) (a2u : a2.toInt ≤ 259) (a3 : Int32) (a3l : 0 ≤ a3.toInt) (a3u : a3.toInt ≤ 30) (a4 : Int32) (a5 : Int32) (hr : RD h.2.1 (h.2.1 70 6).toInt ∧ TD h.2.1 (h.2.1 70 6).toInt) (hl : (h.2.1 70 29).toInt = (h.2.1 70 6).toInt) (ckf : CKF h.2.1) (hi : II h.2.1 (h.2.1 70 6).toInt a2.toInt) (hk : V h.2.1 77 a2.toInt = 1) (hg : 30 * (30 - a3.toInt) + 1 ≤ (nn : Int)), Mt l yX8_calls_ cX8_calls_ 6 (some .int) (d + nn + 2) [.ref 70, .int a2, .int a3, .int a4, .int a5] h 0 0 (fun r h' => ∃ v : Int32, r = some (.int v) ∧ 0 ≤ v.toInt ∧ v.toInt ≤ 3 ∧ Iv P h' ∧ ((h.2.1 70 53).toInt ≤ (h'.2.1 70 53).toInt) ∧ ((st h', v.toInt) = (m_R nn).2.2.2.2.1 (st h) a2.toInt a3.toInt a4.toInt a5.toInt) ∧ (FX KAq h h'))) ∧ (∀ {P : PP} {h : HP} (_ : Iv P h) (a2 : Int32) (a2l : 0 ≤ a2.toInt) (a2u : a2.toInt ≤ 4) (a3 : Int32) (a3l : 0 ≤ a3.toInt) (a3u : a3.toInt ≤ 30) (a4 : Int32) (a5 : Int32) (hr : RD h.2.1 (h.2.1 70 6).toInt ∧ TD h.2.1 (h.2.1 70 6).toInt) (hl : (h.2.1 70 29).toInt = (h.2.1 70 6).toInt) (ckf : CKF h.2.1) (hp : a2.toInt < V h.2.1 76 (h.2.1 70 6).toInt) (hg : 30 * (30 - a3.toInt) + 27 ≤ (nn : Int)), Mt l yX8_procedure cX8_procedure 6 (some .int) (d + nn + 2) [.ref 70, .int a2, .int a3, .int a4, .int a5] h 0 0 (fun r h' => ∃ v : Int32, r = some (.int v) ∧ 0 ≤ v.toInt ∧ v.toInt ≤ 3 ∧ Iv P h' ∧ ((h.2.1 70 53).toInt ≤ (h'.2.1 70 53).toInt) ∧ ((st h', v.toInt) = (m_R nn).2.2.2.2.2 (st h) a2.toInt a3.toInt a4.toInt a5.toInt) ∧ (FX KAq h h'))) := by
  intro nn
  induction nn with
  | zero =>
    refine ⟨?_, ?_, ?_, ?_, ?_, ?_⟩
    · intro P h hv a2 a2l a2u a3 a3l a3u hr hl ckf hb hm
      exfalso
      have r9 : -1 ≤ V h.2.1 92 a2.toInt := (hv.2.1 92 _).1
      have r8 : V h.2.1 80 (V h.2.1 92 a2.toInt) ≤ 6 := (hv.2.1 80 _).2
      by_cases q : V h.2.1 92 a2.toInt = -1
      · have := hm.1 q; omega
      · have := hm.2 (by omega); omega
    · intro P h hv a2 a2l a2u a3 a3l a3u hr hl ckf hi hk hm
      exfalso
      have r8 : V h.2.1 80 a2.toInt ≤ 6 := (hv.2.1 80 _).2
      omega
    · intro P h hv a2 a2l a2u a3 a3l a3u hr hl ckf hi hk hm
      exfalso
      have r8 : V h.2.1 80 a2.toInt ≤ 6 := (hv.2.1 80 _).2
      omega
    · intro P h hv a2 a2l a2u a3 a3l a3u hr hl ckf hi hk hm
      exfalso
      have r8 : V h.2.1 80 a2.toInt ≤ 6 := (hv.2.1 80 _).2
      omega
    · intro P h hv a2 a2l a2u a3 a3l a3u a4 a5 hr hl ckf hi hk hm
      exfalso
      omega
    · intro P h hv a2 a2l a2u a3 a3l a3u a4 a5 hr hl ckf hp hm
      exfalso
      omega
  | succ nn ih =>
    obtain ⟨hG, hY, hD, hL, hC, hP⟩ := ih
    exact ⟨@s_X8_goesBlock_b_f l (d + nn + 1) nn (m_R nn).2.2.1 (m_R nn).2.1 hD hY, @s_X8_tries_b_f l (d + nn + 2) nn (m_R nn).1 hG, @s_X8_does_b_f l (d + nn + 0) nn (m_R nn).2.2.2.2.1 (m_R nn).1 (m_R nn).2.2.2.1 hC hG hL, @s_X8_loops_b_f l (d + nn + 0) nn (m_R nn).1 hG, @s_X8_calls__b_f l (d + nn + 1) nn (m_R nn).2.2.2.2.2 hP, @s_X8_procedure_b_f l (d + nn + 2) nn (m_R nn).1 hG⟩
theorem s_X8_procedure_f (l : Launch) (d : Nat) {P : PP} {h : HP} (hv : Iv P h) (a2 : Int32) (a2l : 0 ≤ a2.toInt) (a2u : a2.toInt ≤ 4) (a3 : Int32) (a3l : 0 ≤ a3.toInt) (a3u : a3.toInt ≤ 30) (a4 : Int32) (a5 : Int32) (hr : RD h.2.1 (h.2.1 70 6).toInt ∧ TD h.2.1 (h.2.1 70 6).toInt) (hl : (h.2.1 70 29).toInt = (h.2.1 70 6).toInt) (ckf : CKF h.2.1) (hp : a2.toInt < V h.2.1 76 (h.2.1 70 6).toInt) : Mt l yX8_procedure cX8_procedure 6 (some .int) (d + 932) [.ref 70, .int a2, .int a3, .int a4, .int a5] h 0 0 (fun r h' => ∃ v : Int32, r = some (.int v) ∧ 0 ≤ v.toInt ∧ v.toInt ≤ 3 ∧ Iv P h' ∧ ((h.2.1 70 53).toInt ≤ (h'.2.1 70 53).toInt) ∧ ((st h', v.toInt) = f_X8_procedure (st h) a2.toInt a3.toInt a4.toInt a5.toInt) ∧ (FX KAq h h')) := (b_runs_f l d 930).2.2.2.2.2 hv a2 a2l a2u a3 a3l a3u a4 a5 hr hl ckf hp (by omega)

def f_X8_runs_ : Nat → Nat → Int → Int → Int → ST → ST × Int
  | 0, _, _, _, _, sx => (sx, 0)
  | n + 1, _, l3, l4, l5, sx => if 4 ≤ l5 then (bd2 (f_X8_procedure sx 0 0 l3 l4) fun s3 v7 => bd (sI s3 70 50 1) fun s9 => bd (sI s9 70 51 ((v7 - 1))) fun s13 => if ¬ v7 = 3 then ((s13, (v7 - 1))) else (bd (sI s13 70 52 0) fun s19 => (s19, (v7 - 1)))) else (bd (sI sx 113 (l5).toNat 0) fun s23 => f_X8_runs_ n 26 l3 l4 ((l5 + 1)) s23)
def f_X8_runs (s : ST) (a2 : Int64) (a3 : Int) (a4 : Int) : ST × Int :=
  bd (s.1 70 29) fun v28 => bd (sI s 70 6 v28) fun s30 => bd (sL s30 70 55 a2) fun s32 => bd (sI s32 70 53 0) fun s34 => bd (sI s34 70 54 0) fun s36 => f_X8_runs_ 31 26 a3 a4 0 s36
set_option maxHeartbeats 4000000 in
set_option maxRecDepth 100000 in
theorem s_X8_runs_f (l : Launch) (d : Nat) {P : PP} {h : HP} (hv : Iv P h) (a2 : Int64) (a3 : Int32) (a4 : Int32) (ckf : CKF h.2.1) (hlv : RD h.2.1 (h.2.1 70 29).toInt ∧ TD h.2.1 (h.2.1 70 29).toInt ∧ 1 ≤ V h.2.1 76 (h.2.1 70 29).toInt) : Mt l yX8_runs cX8_runs 6 (some .int) (d + 933) [.ref 70, .long a2, .int a3, .int a4] h 0 0 (fun r h' => ∃ v : Int32, r = some (.int v) ∧ -2147483648 ≤ v.toInt ∧ v.toInt ≤ 2147483647 ∧ Iv (gs P) h' ∧ ((st h', v.toInt) = f_X8_runs (st h) a2 a3.toInt a4.toInt) ∧ (FX KAq h h')) := by
  refine Mt_iv hv (by decide) (Nat.le_of_ble_eq_true rfl) ?_
  show Go l RX8 cX8_runs 6 (g_rm (d + 933) 0 0) "runs" (some .int) 117 0 0 (fun _ _ => True) (fun r h' => ∃ v : Int32, r = some (.int v) ∧ -2147483648 ≤ v.toInt ∧ v.toInt ≤ 2147483647 ∧ Iv (gs P) h' ∧ ((st h', v.toInt) = f_X8_runs (st h) a2 a3.toInt a4.toInt) ∧ (FX KAq h h')) 0 0 [(0, .ref 70), (1, .long a2), (3, .int a3), (4, .int a4)] [] h
  have fx : FX KAq h h := FX.rfl
  obtain ⟨fin, kf⟩ : ∃ z, z = f_X8_runs (st h) a2 a3.toInt a4.toInt := ⟨_, _root_.rfl⟩
  have k0 := kf
  unfold f_X8_runs at k0
  have key : ∀ n : Nat, (∀ (l3 : Int32) (l4 : Int32) (l5 : Int32) (hx : HP), Iv (gs P) hx → 0 ≤ l5.toInt → l5.toInt ≤ 4 → FX KAq h hx → fin = f_X8_runs_ n 26 l3.toInt l4.toInt l5.toInt (st hx) → (3 * (4 - l5.toInt) + 2 : Int) < n → Go l RX8 cX8_runs 6 (g_rm (d + 933) 0 0) "runs" (some .int) 117 0 0 (fun _ _ => True) (fun r h' => ∃ v : Int32, r = some (.int v) ∧ -2147483648 ≤ v.toInt ∧ v.toInt ≤ 2147483647 ∧ Iv (gs P) h' ∧ ((st h', v.toInt) = f_X8_runs (st h) a2 a3.toInt a4.toInt) ∧ (FX KAq h h')) 0 26 [(0, .ref 70), (3, .int l3), (4, .int l4), (5, .int l5)] [] hx) := by
    intro n
    induction n with
    | zero => exact (by intros; omega)
    | succ n ih =>
      refine ?_
      ·
        intro l3 l4 l5 hx hvx l5l l5u fxx kL hm
        rw [f_X8_runs_] at kL
        refine go_iload (pc := 26) rfl dX8_runs_26 ?_
        refine go_iconst (pc := 28) (v := 4) (by decide) dX8_runs_28 ?_
        refine gf_icmp_ge (pc := 29) (tgt := 46) (ti_rfl l5) (ti_c (v := 4) (a := 4) (by decide)) (by decide) dX8_runs_29 (fun q1 => ?_) (fun q1 => ?_)
        ·
          have k2 := if_t kL q1
          refine go_aload_n (pc := 46) rfl dX8_runs_46 ?_
          refine go_iconst (pc := 47) (v := 0) (by decide) dX8_runs_47 ?_
          refine go_iconst (pc := 48) (v := 0) (by decide) dX8_runs_48 ?_
          refine go_iload_n (pc := 49) rfl dX8_runs_49 ?_
          refine go_iload (pc := 50) rfl dX8_runs_50 ?_
          refine go_invV (pc := 52) (sl := 0) (s_X8_procedure_f l (d + 0) hvx 0 (by rw [show (0 : Int32).toInt = 0 from (ti_c (v := 0) (a := 0) (by decide))]; omega) (by rw [show (0 : Int32).toInt = 0 from (ti_c (v := 0) (a := 0) (by decide))]; omega) 0 (by rw [show (0 : Int32).toInt = 0 from (ti_c (v := 0) (a := 0) (by decide))]; omega) (by rw [show (0 : Int32).toInt = 0 from (ti_c (v := 0) (a := 0) (by decide))]; omega) l3 l4 (by rw [gs6 hv hvx]; exact ⟨RD.ve (VE.ofgs hv hvx) hlv.1, TD.kx (KX.ve (m := 102) (by omega) (VE.ofgs hv hvx)) (by omega) hlv.2.1⟩) (by rw [gs6 hv hvx, gs29 hv hvx]) (CKF.ve (VE.ofgs hv hvx) ckf) (by rw [gs6 hv hvx, VE.v (VE.ofgs hv hvx) (by omega) (by omega)]; have e : (0 : Int32).toInt = 0 := (by decide); rw [e]; have q := hlv.2.2; omega)) mL_X8_457 iM_X8_procedure sM_X8_procedure (hvx.sh rfl) rfl rfl rfl (Nat.le_of_ble_eq_true rfl) (show d + 0 + 932 + 1 ≤ d + 933 by omega) (show 8 + (6 + 11) + 40 * (d + 0 + 932) ≤ 40 * (d + 933) by omega) (g_c0 hvx.ln) (Nat.le_of_ble_eq_true rfl) dX8_runs_52 ?_
          intro r h3 hq _
          obtain ⟨v7, rfl, v7l, v7u, hv3, f4, f5, f6⟩ := hq
          try rw [show (0 : Int32).toInt = 0 from (ti_c (v := 0) (a := 0) (by decide))] at f4
          try rw [show (0 : Int32).toInt = 0 from (ti_c (v := 0) (a := 0) (by decide))] at f4
          try rw [show (0 : Int32).toInt = 0 from (ti_c (v := 0) (a := 0) (by decide))] at f5
          try rw [show (0 : Int32).toInt = 0 from (ti_c (v := 0) (a := 0) (by decide))] at f5
          try rw [show (0 : Int32).toInt = 0 from (ti_c (v := 0) (a := 0) (by decide))] at f6
          try rw [show (0 : Int32).toInt = 0 from (ti_c (v := 0) (a := 0) (by decide))] at f6
          have fx3 : FX KAq h h3 := FX.tr fxx f6
          have k8 := bd2_e k2 f5
          refine go_istore (pc := 55) (Nat.le_of_ble_eq_true rfl) dX8_runs_55 (go_lv (lv2 := [(0, .ref 70), (3, .int l3), (4, .int l4), (5, .int v7)]) rfl ?_)
          refine go_aload_n (pc := 57) rfl dX8_runs_57 ?_
          refine go_iconst (pc := 58) (v := 1) (by decide) dX8_runs_58 ?_
          refine gi_put (pc := 59) (lo := 0) (hi := 1) hv3 (ti_c (v := 1) (a := 1) (by decide)) (fP_X8_247 _) rfl (Nat.le_of_ble_eq_true rfl) rfl rfl (by omega) (by omega) (ti_nb (by rw [show (1 : Int32).toInt = 1 from (ti_c (v := 1) (a := 1) (by decide))]; omega) (by rw [show (1 : Int32).toInt = 1 from (ti_c (v := 1) (a := 1) (by decide))]; omega)) (ti_fb (by rw [show (1 : Int32).toInt = 1 from (ti_c (v := 1) (a := 1) (by decide))]; omega) (by rw [show (1 : Int32).toInt = 1 from (ti_c (v := 1) (a := 1) (by decide))]; omega)) (by decide) (by decide) (by decide) (by decide) dX8_runs_59 (fun h9 hv9 hv9e => ?_)
          have fx9 : FX KAq h h9 := FX.pI fx3 hv9e (by unfold KAq; omega)
          have k10 := bd_e k8 (st_I hv9e (ti_c (v := 1) (a := 1) (by decide)))
          refine go_aload_n (pc := 62) rfl dX8_runs_62 ?_
          refine go_iload (pc := 63) rfl dX8_runs_63 ?_
          refine go_iconst (pc := 65) (v := 1) (by decide) dX8_runs_65 ?_
          refine gf_isub (pc := 66) (ti_rfl v7) (ti_c (v := 1) (a := 1) (by decide)) (by omega) (by omega) dX8_runs_66 (fun v11 e12 => ?_)
          refine gi_put (pc := 67) (lo := -2147483648) (hi := 2147483647) hv9 e12 (fP_X8_459 _) rfl (Nat.le_of_ble_eq_true rfl) rfl rfl (ti_ge e12) (ti_le2 e12) rfl rfl (by decide) (by decide) (by decide) (by decide) dX8_runs_67 (fun h13 hv13 hv13e => ?_)
          have fx13 : FX KAq h h13 := FX.pI fx9 hv13e (by unfold KAq; omega)
          have k14 := bd_e k10 (st_I hv13e e12)
          refine go_iload (pc := 70) rfl dX8_runs_70 ?_
          refine go_iconst (pc := 72) (v := 3) (by decide) dX8_runs_72 ?_
          refine gf_icmp_ne (pc := 73) (tgt := 81) (ti_rfl v7) (ti_c (v := 3) (a := 3) (by decide)) (by decide) dX8_runs_73 (fun q15 => ?_) (fun q15 => ?_)
          ·
            have k16 := if_t k14 q15
            refine go_aload_n (pc := 81) rfl dX8_runs_81 ?_
            refine gi_get (pc := 82) (lo := -2147483648) (hi := 2147483647) hv13 fL_X8_459 rfl (Nat.le_of_ble_eq_true rfl) rfl rfl dX8_runs_82 (fun v17 v17l v17u v17w => ?_)
            have v17r : v11 = h13.2.1 70 51 := (show v11 = h13.2.1 70 51 from by rw [hv13e]; exact g_iS.symm)
            have v17q : TI v17 ((v7.toInt - 1)) := by rw [v17w.trans v17r.symm]; exact e12
            exact gi_iret (pc := 85) v17q ⟨_, rfl, (ti_lo _), (ti_hi _), hv13, (by rw [show (v17 : Int32).toInt = (v7.toInt - 1) from v17q]; exact k16.symm.trans kf), fx13⟩ hv13 dX8_runs_85
          ·
            have k18 := if_f k14 (fun z => z q15)
            refine go_aload_n (pc := 76) rfl dX8_runs_76 ?_
            refine go_iconst (pc := 77) (v := 0) (by decide) dX8_runs_77 ?_
            refine gi_put (pc := 78) (lo := -2147483648) (hi := 2147483647) hv13 (ti_c (v := 0) (a := 0) (by decide)) (fP_X8_434 _) rfl (Nat.le_of_ble_eq_true rfl) rfl rfl (ti_ge (ti_c (v := 0) (a := 0) (by decide))) (ti_le2 (ti_c (v := 0) (a := 0) (by decide))) rfl rfl (by decide) (by decide) (by decide) (by decide) dX8_runs_78 (fun h19 hv19 hv19e => ?_)
            have fx19 : FX KAq h h19 := FX.pI fx13 hv19e (by unfold KAq; omega)
            have k20 := bd_e k18 (st_I hv19e (ti_c (v := 0) (a := 0) (by decide)))
            refine go_aload_n (pc := 81) rfl dX8_runs_81 ?_
            refine gi_get (pc := 82) (lo := -2147483648) (hi := 2147483647) hv19 fL_X8_459 rfl (Nat.le_of_ble_eq_true rfl) rfl rfl dX8_runs_82 (fun v21 v21l v21u v21w => ?_)
            have v21r : v11 = h19.2.1 70 51 := (show v11 = h19.2.1 70 51 from by rw [hv19e]; exact (g_iI rfl (show v11 = h13.2.1 70 51 from by rw [hv13e]; exact g_iS.symm).symm).symm)
            have v21q : TI v21 ((v7.toInt - 1)) := by rw [v21w.trans v21r.symm]; exact e12
            exact gi_iret (pc := 85) v21q ⟨_, rfl, (ti_lo _), (ti_hi _), hv19, (by rw [show (v21 : Int32).toInt = (v7.toInt - 1) from v21q]; exact k20.symm.trans kf), fx19⟩ hv19 dX8_runs_85
        ·
          have k22 := if_f kL (Int.not_le.mpr q1)
          refine go_aload_n (pc := 32) rfl dX8_runs_32 ?_
          refine gi_getF (pc := 33) (q := 113) hvx fL_X8_139 rfl (Nat.le_of_ble_eq_true rfl) rfl (hvx.rf (by decide)) dX8_runs_33 ?_
          refine go_iload (pc := 36) rfl dX8_runs_36 ?_
          refine go_iconst (pc := 38) (v := 0) (by decide) dX8_runs_38 ?_
          refine gi_iast (pc := 39) (lo := -2147483648) (hi := 2147483647) (len := 4) hvx (ti_rfl l5) (ti_c (v := 0) (a := 0) (by decide)) rfl (by omega) (by omega) (fun _ => rfl) (ti_ge (ti_c (v := 0) (a := 0) (by decide))) (ti_le2 (ti_c (v := 0) (a := 0) (by decide))) (by decide) dX8_runs_39 (fun h23 hv23 hv23e => ?_)
          have fx23 : FX KAq h h23 := FX.pI fxx hv23e (by unfold KAq; omega)
          have k24 := bd_e k22 (st_I hv23e (ti_c (v := 0) (a := 0) (by decide)))
          refine gf_iinc (pc := 40) (Nat.le_of_ble_eq_true rfl) rfl (ti_rfl l5) (ti_c (by decide)) (by omega) (by omega) dX8_runs_40 (fun v25 e26 => ?_)
          refine go_lv (lv2 := [(0, .ref 70), (3, .int l3), (4, .int l4), (5, .int v25)]) rfl ?_
          refine go_goto (pc := 43) (tgt := 26) (by decide) dX8_runs_43 ?_
          have z27 : (v25 : Int32).toInt = (l5.toInt + 1) := e26
          exact go_lv rfl (ih l3 l4 v25 h23 hv23 (by omega) (by omega) fx23 (by rw [show (v25 : Int32).toInt = (l5.toInt + 1) from e26]; exact k24) (by omega))
  refine go_aload_n (pc := 0) rfl dX8_runs_0 ?_
  refine go_aload_n (pc := 1) rfl dX8_runs_1 ?_
  refine gi_get (pc := 2) (lo := 0) (hi := 1) hv fL_X8_228 rfl (Nat.le_of_ble_eq_true rfl) rfl rfl dX8_runs_2 (fun v28 v28l v28u v28w => ?_)
  have k29 := bd_e k0 (congrArg Int32.toInt v28w.symm)
  refine gi_putS (pc := 5) hv v28w (fP_X8_187 _) dX8_runs_5 (fun h30 hv30 hv30e => ?_)
  have fx30 : FX KAq h h30 := FX.pI fx hv30e (by unfold KAq; omega)
  have k31 := bd_e k29 (st_I hv30e (ti_rfl v28))
  refine go_aload_n (pc := 8) rfl dX8_runs_8 ?_
  refine go_lload_n (pc := 9) rfl dX8_runs_9 ?_
  refine gi_putL (pc := 10) hv30 (fP_X8_424 _) rfl (Nat.le_of_ble_eq_true rfl) rfl rfl rfl dX8_runs_10 (fun h32 hv32 hv32e => ?_)
  have fx32 : FX KAq h h32 := FX.pL fx30 hv32e (by unfold KAq; omega)
  have k33 := bd_e k31 (st_L hv32e)
  refine go_aload_n (pc := 13) rfl dX8_runs_13 ?_
  refine go_iconst (pc := 14) (v := 0) (by decide) dX8_runs_14 ?_
  refine gi_put (pc := 15) (lo := 0) (hi := 3000) hv32 (ti_c (v := 0) (a := 0) (by decide)) (fP_X8_437 _) rfl (Nat.le_of_ble_eq_true rfl) rfl rfl (by omega) (by omega) rfl rfl (by decide) (by decide) (by decide) (by decide) dX8_runs_15 (fun h34 hv34 hv34e => ?_)
  have fx34 : FX KAq h h34 := FX.pI fx32 hv34e (by unfold KAq; omega)
  have k35 := bd_e k33 (st_I hv34e (ti_c (v := 0) (a := 0) (by decide)))
  refine go_aload_n (pc := 18) rfl dX8_runs_18 ?_
  refine go_iconst (pc := 19) (v := 0) (by decide) dX8_runs_19 ?_
  refine gi_put (pc := 20) (lo := 0) (hi := 500) hv34 (ti_c (v := 0) (a := 0) (by decide)) (fP_X8_418 _) rfl (Nat.le_of_ble_eq_true rfl) rfl rfl (by omega) (by omega) rfl rfl (by decide) (by decide) (by decide) (by decide) dX8_runs_20 (fun h36 hv36 hv36e => ?_)
  have fx36 : FX KAq h h36 := FX.pI fx34 hv36e (by unfold KAq; omega)
  have k37 := bd_e k35 (st_I hv36e (ti_c (v := 0) (a := 0) (by decide)))
  refine go_iconst (pc := 23) (v := 0) (by decide) dX8_runs_23 ?_
  refine go_istore (pc := 24) (Nat.le_of_ble_eq_true rfl) dX8_runs_24 (go_lv (lv2 := [(0, .ref 70), (1, .long a2), (3, .int a3), (4, .int a4), (5, .int 0)]) rfl ?_)
  have z38 : (0 : Int32).toInt = 0 := (ti_c (v := 0) (a := 0) (by decide))
  exact go_lv rfl ((key 31) a3 a4 0 h36 hv36 (by omega) (by omega) fx36 (by rw [show (0 : Int32).toInt = 0 from (ti_c (v := 0) (a := 0) (by decide))]; exact k37) (by omega))
def f_X8_run (s : ST) (a2 : Int) (a3 : Int) : ST × Int :=
  bd (s.1 70 30) fun v1 => if v1 = 0 then ((s, (-1))) else (bd2 (f_X8_runs s ((-1) : Int64) a2 a3) fun s6 v9 => (s6, v9))
set_option maxHeartbeats 4000000 in
set_option maxRecDepth 100000 in
theorem s_X8_run_f (l : Launch) (d : Nat) {P : PP} {h : HP} (hv : Iv P h) (a2 : Int32) (a3 : Int32) (ckf : CKF h.2.1) (hlv : LV h.2.1) : Mt l yX8_run cX8_run 3 (some .int) (d + 934) [.ref 70, .int a2, .int a3] h 0 0 (fun r h' => ∃ v : Int32, r = some (.int v) ∧ -2147483648 ≤ v.toInt ∧ v.toInt ≤ 2147483647 ∧ (∃ Q : PP, Iv Q h' ∧ SQ P Q) ∧ ((st h', v.toInt) = f_X8_run (st h) a2.toInt a3.toInt) ∧ (FX KAq h h')) := by
  refine Mt_iv hv (by decide) (Nat.le_of_ble_eq_true rfl) ?_
  show Go l RX8 cX8_run 3 (g_rm (d + 934) 0 0) "run" (some .int) 117 0 0 (fun _ _ => True) (fun r h' => ∃ v : Int32, r = some (.int v) ∧ -2147483648 ≤ v.toInt ∧ v.toInt ≤ 2147483647 ∧ (∃ Q : PP, Iv Q h' ∧ SQ P Q) ∧ ((st h', v.toInt) = f_X8_run (st h) a2.toInt a3.toInt) ∧ (FX KAq h h')) 0 0 [(0, .ref 70), (1, .int a2), (2, .int a3)] [] h
  have fx : FX KAq h h := FX.rfl
  obtain ⟨fin, kf⟩ : ∃ z, z = f_X8_run (st h) a2.toInt a3.toInt := ⟨_, _root_.rfl⟩
  have k0 := kf
  unfold f_X8_run at k0
  refine go_aload_n (pc := 0) rfl dX8_run_0 ?_
  refine gi_get (pc := 1) (lo := 0) (hi := 1) hv fL_X8_243 rfl (Nat.le_of_ble_eq_true rfl) rfl rfl dX8_run_1 (fun v1 v1l v1u v1w => ?_)
  have k2 := bd_e k0 (congrArg Int32.toInt v1w.symm)
  refine gf_if_eq (pc := 4) (tgt := 19) (ti_rfl v1) (by decide) dX8_run_4 (fun q3 => ?_) (fun q3 => ?_)
  ·
    have k4 := if_t k2 q3
    refine go_iconst (pc := 19) (v := (-1)) (by decide) dX8_run_19 ?_
    exact gi_iret (pc := 20) (ti_c (v := (-1)) (a := (-1)) (by decide)) ⟨_, rfl, (ti_lo _), (ti_hi _), ⟨_, hv, (SQ.rfl _)⟩, (by rw [show ((-1) : Int32).toInt = (-1) from (ti_c (v := (-1)) (a := (-1)) (by decide))]; exact k4.symm.trans kf), fx⟩ hv dX8_run_20
  ·
    have k5 := if_f k2 q3
    refine go_aload_n (pc := 7) rfl dX8_run_7 ?_
    refine go_ldc2 (pc := 8) kL_X8_329 dX8_run_8 ?_
    refine go_iload_n (pc := 11) rfl dX8_run_11 ?_
    refine go_iload_n (pc := 12) rfl dX8_run_12 ?_
    refine go_invV (pc := 13) (sl := 0) (s_X8_runs_f l (d + 0) hv ((-1) : Int64) a2 a3 ckf (hlv (by rw [← v1w]; omega))) mL_X8_462 iM_X8_runs sM_X8_runs (hv.sh rfl) rfl rfl rfl (Nat.le_of_ble_eq_true rfl) (show d + 0 + 933 + 1 ≤ d + 934 by omega) (show 8 + (6 + 11) + 40 * (d + 0 + 933) ≤ 40 * (d + 934) by omega) (g_c0 hv.ln) (Nat.le_of_ble_eq_true rfl) dX8_run_13 ?_
    intro r h6 hq _
    obtain ⟨v9, rfl, v9l, v9u, hv6, f7, f8⟩ := hq
    have fx6 : FX KAq h h6 := FX.tr fx f8
    have k10 := bd2_e k5 f7
    refine go_goto (pc := 16) (tgt := 20) (by decide) dX8_run_16 ?_
    exact gi_iret (pc := 20) (ti_rfl v9) ⟨_, rfl, (ti_lo _), (ti_hi _), ⟨_, hv6, (SQ.ofgs _)⟩, (k10.symm.trans kf), fx6⟩ hv6 dX8_run_20
set_option maxHeartbeats 4000000 in
set_option maxRecDepth 100000 in
theorem s_X8_runKept2_f (l : Launch) (d : Nat) {P : PP} {h : HP} (hv : Iv P h) (a2 : Int32) (a3 : Int32) (a4 : Int32) (ckf : CKF h.2.1) (hlv : LV h.2.1) : Mt l yX8_runKept cX8_runKept 4 (some .int) (d + 934) [.ref 70, .int a2, .int a3, .int a4] h 0 0 (fun r h' => ∃ v : Int32, r = some (.int v) ∧ -2147483648 ≤ v.toInt ∧ v.toInt ≤ 2147483647 ∧ (∃ Q : PP, Iv Q h' ∧ SQ P Q) ∧ (FX KAq h h')) := by
  refine Mt_iv hv (by decide) (Nat.le_of_ble_eq_true rfl) ?_
  show Go l RX8 cX8_runKept 4 (g_rm (d + 934) 0 0) "runKept" (some .int) 117 0 0 (fun _ _ => True) (fun r h' => ∃ v : Int32, r = some (.int v) ∧ -2147483648 ≤ v.toInt ∧ v.toInt ≤ 2147483647 ∧ (∃ Q : PP, Iv Q h' ∧ SQ P Q) ∧ (FX KAq h h')) 0 0 [(0, .ref 70), (1, .int a2), (2, .int a3), (3, .int a4)] [] h
  have fx : FX KAq h h := FX.rfl
  refine go_aload_n (pc := 0) rfl dX8_runKept_0 ?_
  refine go_iload_n (pc := 1) rfl dX8_runKept_1 ?_
  refine go_invV (pc := 2) (sl := 0) (s_X8_isStatement_x_f l (d + 931) hv a2) mL_X8_389 iM_X8_isStatement sM_X8_isStatement (hv.sh rfl) rfl rfl rfl (Nat.le_of_ble_eq_true rfl) (show d + 931 + 2 + 1 ≤ d + 934 by omega) (show 8 + (2 + 11) + 40 * (d + 931 + 2) ≤ 40 * (d + 934) by omega) (g_c0 hv.ln) (Nat.le_of_ble_eq_true rfl) dX8_runKept_2 ?_
  intro r h1 hq _
  obtain ⟨v4, rfl, v4l, v4u, rfl, f5, f2, f3⟩ := hq
  replace f3 : PE _ _ := f3
  refine gf_if_eq (pc := 5) (tgt := 22) (ti_rfl v4) (by decide) dX8_runKept_5 (fun q6 => ?_) (fun q6 => ?_)
  ·
    refine go_iconst (pc := 22) (v := (-1)) (by decide) dX8_runKept_22 ?_
    exact gi_iret (pc := 23) (ti_c (v := (-1)) (a := (-1)) (by decide)) ⟨_, rfl, (ti_lo _), (ti_hi _), ⟨_, hv, (SQ.rfl _)⟩, fx⟩ hv dX8_runKept_23
  ·
    refine go_aload_n (pc := 8) rfl dX8_runKept_8 ?_
    refine go_aload_n (pc := 9) rfl dX8_runKept_9 ?_
    refine go_iload_n (pc := 10) rfl dX8_runKept_10 ?_
    refine go_invV (pc := 11) (sl := 0) (s_X8_keptFor2_f l (d + 927) hv a2 (by rw [show (a2 : Int32).toInt = a2.toInt from (ti_rfl a2)]; omega) (by rw [show (a2 : Int32).toInt = a2.toInt from (ti_rfl a2)]; omega) ckf) mL_X8_413 iM_X8_keptFor sM_X8_keptFor (hv.sh rfl) rfl rfl rfl (Nat.le_of_ble_eq_true rfl) (show d + 927 + 6 + 1 ≤ d + 934 by omega) (show 8 + (6 + 11) + 40 * (d + 927 + 6) ≤ 40 * (d + 934) by omega) (g_c0 hv.ln) (Nat.le_of_ble_eq_true rfl) dX8_runKept_11 ?_
    intro r h7 hq _
    obtain ⟨v9, rfl, hv7, f8⟩ := hq
    have fx7 : FX KAq h h7 := FX.tr fx f8
    refine go_iload_n (pc := 14) rfl dX8_runKept_14 ?_
    refine go_iload_n (pc := 15) rfl dX8_runKept_15 ?_
    refine go_invV (pc := 16) (sl := 0) (s_X8_runs_f l (d + 0) hv7 v9 a3 a4 (CKF.ve (VE.ofgs hv hv7) ckf) (LV.ofgs hv hv7 hlv (by rw [gs30 hv hv7]; exact (f2 (by omega)).1))) mL_X8_462 iM_X8_runs sM_X8_runs (hv7.sh rfl) rfl rfl rfl (Nat.le_of_ble_eq_true rfl) (show d + 0 + 933 + 1 ≤ d + 934 by omega) (show 8 + (6 + 11) + 40 * (d + 0 + 933) ≤ 40 * (d + 934) by omega) (g_c0 hv7.ln) (Nat.le_of_ble_eq_true rfl) dX8_runKept_16 ?_
    intro r h10 hq _
    obtain ⟨v13, rfl, v13l, v13u, hv10, f11, f12⟩ := hq
    have fx10 : FX KAq h h10 := FX.tr fx7 f12
    refine go_goto (pc := 19) (tgt := 23) (by decide) dX8_runKept_19 ?_
    exact gi_iret (pc := 23) (ti_rfl v13) ⟨_, rfl, (ti_lo _), (ti_hi _), ⟨_, hv10, (SQ.trans (SQ.ofgs _) (SQ.ofgs _))⟩, fx10⟩ hv10 dX8_runKept_23

