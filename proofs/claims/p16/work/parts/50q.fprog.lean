/-! the reference's program, as it is told -/
def PgAll (G : FN) (S n : Int) : Prop := ∀ q, 0 ≤ q → q < n → V G 101 (5 * S + q) = 1 ∨ V G 102 (5 * S + q) = 1
/-- the state that the reading begins with: the four counts of the half at hand are 0 -/
def PgT (h : HP) (t : ST) (S : Int) : Prop := (∀ c j, c < 73 ∨ 76 < c → t.1 c j = (h.2.1 c j).toInt) ∧ gI t 73 S = 0 ∧ gI t 74 S = 0 ∧ gI t 75 S = 0 ∧ gI t 76 S = 0
def PgL (t : ST) (S : Int) (FL FG : FN) : Prop := (f_X8_readAll t).1 70 5 = 0 ∧ (∃ F, TRF F (f_X8_readAll t) S) ∧ ¬ f_X8_isTold (f_X8_readAll t) = 0 ∧ (∀ k, 0 ≤ k → k < gI (f_X8_readAll t) 75 S → gI (f_X8_readAll t) 84 (gI (f_X8_readAll t) 93 (40 * S + k)) < gI (f_X8_readAll t) 76 S) ∧ (∀ (c : Nat) (i : Int), (f_X8_laysWays (f_X8_readAll t)).1 c i.toNat = V FL c i) ∧ KX 100 FL FG ∧ LSP FL FG S ∧ FXP FG S (gI (f_X8_readAll t) 76 S) ∧ V FG 76 S = gI (f_X8_readAll t) 76 S ∧ V FG 75 S = gI (f_X8_readAll t) 75 S
def PgH (t : ST) (S : Int) (FG : FN) (g : HP) (k : Int) : Prop := VE FG g.2.1 ∧ (g.2.1 70 4).toInt = (f_X8_readAll t).1 70 4 ∧ (((g.2.1 70 5).toInt = 0 ∧ PgAll FG S k) ∨ ((g.2.1 70 5).toInt = 6 + 8 * (f_X8_readAll t).1 70 4 ∧ ¬ PgAll FG S (gI (f_X8_readAll t) 76 S)))
def PgQ (t : ST) (g : HP) (S v : Int) : Prop := ((f_X8_readAll t).1 70 5 ≠ 0 ∧ v = -2 ∧ (g.2.1 70 5).toInt = (f_X8_readAll t).1 70 5) ∨ ((f_X8_readAll t).1 70 5 = 0 ∧ (∃ F, TRF F (f_X8_readAll t) S) ∧ f_X8_isTold (f_X8_readAll t) = 0 ∧ v = -2 ∧ (g.2.1 70 5).toInt = 5 + 8 * (f_X8_readAll t).1 70 4) ∨ (∃ FL FG : FN, PgL t S FL FG ∧ ((PgAll FG S (gI (f_X8_readAll t) 76 S) ∧ v = gI (f_X8_readAll t) 75 S ∧ (g.2.1 70 5).toInt = 0 ∧ VE FG g.2.1 ∧ (g.2.1 70 29).toInt = S ∧ (g.2.1 70 30).toInt = 1) ∨ (¬ PgAll FG S (gI (f_X8_readAll t) 76 S) ∧ v = -2 ∧ (g.2.1 70 5).toInt = 6 + 8 * (f_X8_readAll t).1 70 4)))
def PgB (h g : HP) (v S : Int) : Prop := ∃ t, PgT h t S ∧ PgQ t g S v
def PgS (h : HP) (t : ST) (S : Int) : Prop := t.1 70 6 = S ∧ t.1 70 3 = (h.2.1 70 2).toInt ∧ t.1 70 4 = 0 ∧ t.1 70 5 = 0 ∧ (∀ j : Nat, (j : Int) < (h.2.1 70 2).toInt → t.1 72 j = (h.2.1 71 j).toInt) ∧ gI t 73 S = 0 ∧ gI t 74 S = 0 ∧ gI t 75 S = 0 ∧ gI t 76 S = 0
/-- what stays of the half that is shown, when a text was faulty -/
def OHx (F G : FN) (S : Int) : Prop := (∀ (c j : Nat), 73 ≤ c → c ≤ 102 → ¬ (wd c * S ≤ (j : Int) ∧ (j : Int) < wd c * S + wd c) → G c j = F c j) ∧ G 70 29 = F 70 29 ∧ G 70 30 = F 70 30
theorem fails_t {h g : HP} {a : Int} (f : st g = f_X8_fails (st h) a) (z : (h.2.1 70 5).toInt = 0) : (g.2.1 70 5).toInt = a + 8 * (h.2.1 70 4).toInt ∧ (g.2.1 70 4).toInt = (h.2.1 70 4).toInt := by
  unfold f_X8_fails at f
  have k1 := bd_e (y := (h.2.1 70 4).toInt) f rfl
  have k2 := bd_e k1 (show (st h).1 70 5 = 0 from z)
  have k3 := if_f k2 (fun y => y rfl)
  have k4 := bd_e k3 rfl
  have e : (st g).1 = (sI (st h) 70 5 (a + 8 * (h.2.1 70 4).toInt)).1 := congrArg Prod.fst k4
  refine ⟨?_, ?_⟩
  · show (st g).1 70 5 = _
    rw [e, sI_eq]
  · show (st g).1 70 4 = _
    rw [e, sI_ne (show ¬ ((70 : Nat) = 70 ∧ (4 : Nat) = 5) by omega)]
    rfl
theorem fails_f {h g : HP} {a : Int} (f : st g = f_X8_fails (st h) a) (z : (h.2.1 70 5).toInt ≠ 0) : st g = st h := by
  unfold f_X8_fails at f
  have k1 := bd_e f rfl
  have k2 := bd_e (y := (h.2.1 70 5).toInt) k1 rfl
  exact if_t k2 z
theorem TRF.iv {P : PP} {h : HP} {S : Int} (hv : Iv P h) (r : RD h.2.1 S) (ck : CKF h.2.1) : TRF h.2.1 (st h) S :=
  ⟨fun _ _ => rfl, r.1, r.2.1, fun i => (hv.2.1 80 _).1, fun i => (hv.2.1 80 _).2, fun i => hv.2.1 77 _, fun i z => ck _ z⟩
theorem PgQ.bad {t : ST} {g : HP} {S v : Int} (e : st g = f_X8_readAll t) (n : (g.2.1 70 5).toInt ≠ 0) (w : v = -2) : PgQ t g S v := by
  unfold PgQ
  rw [← e]
  exact Or.inl ⟨n, w, rfl⟩
theorem PgQ.told {P : PP} {t : ST} {h g : HP} {S v : Int} (hv : Iv P h) (e : st h = f_X8_readAll t) (z : (h.2.1 70 5).toInt = 0) (r : RD h.2.1 S) (ck : CKF h.2.1) (n : f_X8_isTold (st h) = 0) (f : st g = f_X8_fails (st h) 5) (w : v = -2) : PgQ t g S v := by
  unfold PgQ
  rw [← e]
  exact Or.inr (Or.inl ⟨z, ⟨_, TRF.iv hv r ck⟩, n, w, (fails_t f z).1⟩)
theorem PgL.mk {P : PP} {t : ST} {S : Int} {h w g : HP} (hv : Iv P h) (e : st h = f_X8_readAll t) (z : (h.2.1 70 5).toInt = 0) (rd : RD h.2.1 S) (ck : CKF h.2.1) (n : ¬ f_X8_isTold (st h) = 0) (td : TD h.2.1 S) (ew : st w = f_X8_laysWays (st h)) (k1 : KX 94 h.2.1 w.2.1) (k2 : KX 100 w.2.1 g.2.1) (ls : LSP w.2.1 g.2.1 S) (fx : FXP g.2.1 S (V w.2.1 76 S)) : PgL t S w.2.1 g.2.1 := by
  have a76 : V w.2.1 76 S = V h.2.1 76 S := k1.v (by omega) (by omega)
  have b76 : V g.2.1 76 S = V w.2.1 76 S := k2.v (by omega) (by omega)
  have a75 : V w.2.1 75 S = V h.2.1 75 S := k1.v (by omega) (by omega)
  have b75 : V g.2.1 75 S = V w.2.1 75 S := k2.v (by omega) (by omega)
  unfold PgL
  rw [← e]
  refine ⟨z, ⟨_, TRF.iv hv rd ck⟩, n, td, fun c i => by rw [← ew]; rfl, k2, ls, ?_, b76.trans a76, b75.trans a75⟩
  rw [a76] at fx
  exact fx
theorem PgH.mk {t : ST} {S : Int} {h w g : HP} (e : st h = f_X8_readAll t) (z : (h.2.1 70 5).toInt = 0) (f1 : FX KRM h w) (f2 : FX KRM w g) : PgH t S g.2.1 g (0 : Int32).toInt := by
  refine ⟨VE.rfl _, ?_, Or.inl ⟨?_, fun q q0 q1 => absurd q1 (by have e0 : (0 : Int32).toInt = 0 := (by decide); omega)⟩⟩
  · rw [← e]
    show (g.2.1 70 4).toInt = (h.2.1 70 4).toInt
    rw [(f2 70 4 (by unfold KRM; omega)).1, (f1 70 4 (by unfold KRM; omega)).1]
  · rw [(f2 70 5 (by unfold KRM; omega)).1, (f1 70 5 (by unfold KRM; omega)).1]
    exact z
theorem PgH.stay {t : ST} {S k : Int} {FG : FN} {h g : HP} (p : PgH t S FG h k) (n : (h.2.1 70 5).toInt ≠ 0) (f : st g = f_X8_fails (st h) 6) (ve : VE h.2.1 g.2.1) : PgH t S FG g (k + 1) := by
  have e := fails_f f n
  have e4 : (g.2.1 70 4).toInt = (h.2.1 70 4).toInt := congrFun (congrFun (congrArg Prod.fst e) 70) 4
  have e5 : (g.2.1 70 5).toInt = (h.2.1 70 5).toInt := congrFun (congrFun (congrArg Prod.fst e) 70) 5
  obtain ⟨a, b, c⟩ := p
  refine ⟨VE.trans a ve, e4.trans b, ?_⟩
  rcases c with c | c
  · exact absurd c.1 n
  · exact Or.inr ⟨e5.trans c.1, c.2⟩
theorem PgH.flag {t : ST} {S k : Int} {FG : FN} {h : HP} (p : PgH t S FG h k) (z : V h.2.1 101 (5 * S + k) = 1 ∨ V h.2.1 102 (5 * S + k) = 1) : PgH t S FG h (k + 1) := by
  obtain ⟨a, b, c⟩ := p
  refine ⟨a, b, ?_⟩
  rcases c with c | c
  · refine Or.inl ⟨c.1, fun q q0 q1 => ?_⟩
    by_cases w : q = k
    · have e1 : V h.2.1 101 (5 * S + k) = V FG 101 (5 * S + k) := a.v (by omega) (by omega)
      have e2 : V h.2.1 102 (5 * S + k) = V FG 102 (5 * S + k) := a.v (by omega) (by omega)
      rw [e1, e2] at z
      rw [w]
      exact z
    · exact c.2 q q0 (by omega)
  · exact Or.inr c
theorem PgH.non {t : ST} {S k : Int} {FL FG : FN} {h g : HP} (l : PgL t S FL FG) (p : PgH t S FG h k) (k0 : 0 ≤ k) (k1 : k < V h.2.1 76 S) (z : (h.2.1 70 5).toInt = 0) (n1 : V h.2.1 101 (5 * S + k) = 0) (n2 : V h.2.1 102 (5 * S + k) = 0) (f : st g = f_X8_fails (st h) 6) (ve : VE h.2.1 g.2.1) : PgH t S FG g (k + 1) := by
  obtain ⟨a, b, _⟩ := p
  have e := fails_t f z
  have e76 : V h.2.1 76 S = V FG 76 S := a.v (by omega) (by omega)
  have l76 := l.2.2.2.2.2.2.2.2.1
  have e1 : V h.2.1 101 (5 * S + k) = V FG 101 (5 * S + k) := a.v (by omega) (by omega)
  have e2 : V h.2.1 102 (5 * S + k) = V FG 102 (5 * S + k) := a.v (by omega) (by omega)
  refine ⟨VE.trans a ve, e.2.trans b, Or.inr ⟨by rw [e.1, b], fun all => ?_⟩⟩
  have y := all k k0 (by rw [← l76, ← e76]; exact k1)
  omega
theorem PgQ.bad6 {t : ST} {S k v : Int} {FL FG : FN} {g : HP} (l : PgL t S FL FG) (p : PgH t S FG g k) (n : (g.2.1 70 5).toInt ≠ 0) (w : v = -2) : PgQ t g S v := by
  refine Or.inr (Or.inr ⟨FL, FG, l, Or.inr ?_⟩)
  rcases p.2.2 with c | c
  · exact absurd c.1 n
  · exact ⟨c.2, w, c.1⟩
theorem PgQ.good {t : ST} {S k v : Int} {FL FG : FN} {h g : HP} (l : PgL t S FL FG) (p : PgH t S FG h k) (kk : V h.2.1 76 S ≤ k) (z : (h.2.1 70 5).toInt = 0) (w : v = V h.2.1 75 S) (ve : VE h.2.1 g.2.1) (f5 : (g.2.1 70 5).toInt = (h.2.1 70 5).toInt) (f29 : (g.2.1 70 29).toInt = S) (f30 : (g.2.1 70 30).toInt = 1) : PgQ t g S v := by
  have e76 : V h.2.1 76 S = V FG 76 S := p.1.v (by omega) (by omega)
  have e75 : V h.2.1 75 S = V FG 75 S := p.1.v (by omega) (by omega)
  have l76 := l.2.2.2.2.2.2.2.2.1
  have l75 := l.2.2.2.2.2.2.2.2.2
  rcases p.2.2 with c | c
  · exact Or.inr (Or.inr ⟨FL, FG, l, Or.inl ⟨fun q q0 q1 => c.2 q q0 (by rw [← l76, ← e76] at q1; omega), by rw [w, e75, l75], f5.trans z, VE.trans p.1 ve, f29, f30⟩⟩)
  · exfalso
    have := c.1
    omega
/-- both programs: the same answer, the same fault -/
theorem prog_same {c : Nat} {S a v : Int} {s t : ST} {g : HP} (hc : c = 2 ∨ c = 18) (S0 : 0 ≤ S) (a0 : 0 ≤ a) (a5 : a ≤ 500) (hS : t.1 70 6 = S) (t3 : t.1 70 3 = a) (t4 : t.1 70 4 = 0) (t5 : t.1 70 5 = 0) (tx : TX (s.1 1) (t.1 72) a) (t73 : gI t 73 S = 0) (t74 : gI t 74 S = 0) (t75 : gI t 75 S = 0) (t76 : gI t 76 S = 0) (q : PgQ t g S v) : (f_X3_read s a c).2 = (g.2.1 70 5).toInt ∧ ((f_X3_read s a c).2 = 0 → v = (f_X3_read s a c).1.1 c 0) ∧ ((f_X3_read s a c).2 ≠ 0 → v = -2) := by
  have A := prog_all (s := s) (t := t) hc S0 a0 a5 hS t3 t4 t5 tx t73 t74 t75 t76
  rcases q with q | q | ⟨FL, FG, l, q⟩
  · have e := A.1 q.1
    exact ⟨e.trans q.2.2.symm, fun z => absurd (e.symm.trans z) q.1, fun _ => q.2.1⟩
  · obtain ⟨z0, ⟨F, f⟩, tl, w, fa⟩ := q
    have e := (A.2 F z0 f).1 tl (fun _ _ _ => trivial)
    exact ⟨e.trans fa.symm, fun z => absurd z (by omega), fun _ => w⟩
  · obtain ⟨z0, ⟨F, f⟩, tl, td, hl, kx, ls, fx, _, _⟩ := l
    have e := (A.2 F z0 f).2 tl td FL FG hl kx ls fx
    rcases q with q | q
    · have r := e.1 q.1
      exact ⟨r.1.trans q.2.2.1.symm, fun _ => q.2.1.trans r.2.symm, fun z => absurd r.1 z⟩
    · have r := e.2 q.1
      exact ⟨r.trans q.2.2.symm, fun z => absurd z (by omega), fun _ => q.2.1⟩
theorem nar_id {x : Int32} (h0 : -128 ≤ x.toInt) (h1 : x.toInt ≤ 127) : vp_nar .byte x = x := by
  have e : vp_nar .byte x = x.toInt8.toInt32 := rfl
  rw [e]
  apply Int32.toInt_inj.mp
  rw [Int8.toInt_toInt32, Int32.toInt_toInt8]
  rw [Int.bmod_def]
  split <;> omega

set_option maxHeartbeats 4000000 in
set_option maxRecDepth 100000 in
theorem s_X8_program_c_f (l : Launch) (d : Nat) {P : PP} {h : HP} (hv : Iv P h) (ckf : CKF h.2.1) (hpb : PB h.2.1 (h.2.1 70 6).toInt) : Go l RX8 cX8_program 2 (g_rm (d + 600) 0 0) "program" (some .int) 117 0 0 (fun _ _ => True) (fun r h' => ∃ v : Int32, r = some (.int v) ∧ -2147483648 ≤ v.toInt ∧ v.toInt ≤ 2147483647 ∧ (∃ Q : PP, Iv Q h' ∧ MC P Q) ∧ ((CKF h'.2.1)) ∧ (LV h'.2.1) ∧ (FX KR h h') ∧ (v.toInt = V h.2.1 75 (h.2.1 70 6).toInt) ∧ (VE h.2.1 h'.2.1) ∧ ((h'.2.1 70 5).toInt = (h.2.1 70 5).toInt) ∧ (h'.2.1 70 29 = h.2.1 70 6) ∧ ((h'.2.1 70 30).toInt = 1) ∧ (∃ s1 : ST, st h' = f_X8_laysAll2 s1 ∧ s1.1 70 6 = (h'.2.1 70 29).toInt)) 0 215 [(0, .ref 70)] [] h := by
  have fx : FX KR h h := FX.rfl
  obtain ⟨u70_5, u70_5w⟩ : ∃ v : Int32, v = h.2.1 70 5 := ⟨_, rfl⟩
  have u70_5e : (h.2.1 70 5).toInt = u70_5.toInt := by rw [u70_5w]
  have u70_5l : -2147483648 ≤ u70_5.toInt := by rw [u70_5w]; exact (hv.2.1 70 5).1
  have u70_5u : u70_5.toInt ≤ 2147483647 := by rw [u70_5w]; exact (hv.2.1 70 5).2
  refine go_aload_n (pc := 215) rfl dX8_program_215 ?_
  refine go_aload_n (pc := 216) rfl dX8_program_216 ?_
  refine gi_get (pc := 217) (lo := 0) (hi := 1) hv fL_X8_187 rfl (Nat.le_of_ble_eq_true rfl) rfl rfl dX8_program_217 (fun v1 v1l v1u v1w => ?_)
  refine gi_putG (pc := 220) (j := 29) hv (ti_rfl v1) (fP_X8_228 _) (Nat.le_of_ble_eq_true rfl) rfl rfl rfl (by omega) (by omega) (by decide) dX8_program_220 (fun h2 hv2 hv2e => ?_)
  have fx2 : FX KR h h2 := FX.pI fx hv2e (by unfold KR; omega)
  refine go_aload_n (pc := 223) rfl dX8_program_223 ?_
  refine go_iconst (pc := 224) (v := 1) (by decide) dX8_program_224 ?_
  refine gi_putG (pc := 225) (j := 30) hv2 (ti_c (v := 1) (a := 1) (by decide)) (fP_X8_243 _) (Nat.le_of_ble_eq_true rfl) rfl (ti_nb (by rw [show (1 : Int32).toInt = 1 from (ti_c (v := 1) (a := 1) (by decide))]; omega) (by rw [show (1 : Int32).toInt = 1 from (ti_c (v := 1) (a := 1) (by decide))]; omega)) (ti_fb (by rw [show (1 : Int32).toInt = 1 from (ti_c (v := 1) (a := 1) (by decide))]; omega) (by rw [show (1 : Int32).toInt = 1 from (ti_c (v := 1) (a := 1) (by decide))]; omega)) (by omega) (by omega) (by decide) dX8_program_225 (fun h3 hv3 hv3e => ?_)
  have fx3 : FX KR h h3 := FX.pI fx2 hv3e (by unfold KR; omega)
  refine go_aload_n (pc := 228) rfl dX8_program_228 ?_
  refine go_iconst (pc := 229) (v := 0) (by decide) dX8_program_229 ?_
  refine gi_put (pc := 230) (lo := 0) (hi := 1) hv3 (ti_c (v := 0) (a := 0) (by decide)) (fP_X8_247 _) rfl (Nat.le_of_ble_eq_true rfl) rfl rfl (by omega) (by omega) (ti_nb (by rw [show (0 : Int32).toInt = 0 from (ti_c (v := 0) (a := 0) (by decide))]; omega) (by rw [show (0 : Int32).toInt = 0 from (ti_c (v := 0) (a := 0) (by decide))]; omega)) (ti_fb (by rw [show (0 : Int32).toInt = 0 from (ti_c (v := 0) (a := 0) (by decide))]; omega) (by rw [show (0 : Int32).toInt = 0 from (ti_c (v := 0) (a := 0) (by decide))]; omega)) (by decide) (by decide) (by decide) (by decide) dX8_program_230 (fun h4 hv4 hv4e => ?_)
  have fx4 : FX KR h h4 := FX.pI fx3 hv4e (by unfold KR; omega)
  refine go_aload_n (pc := 233) rfl dX8_program_233 ?_
  have vec : VE h.2.1 h4.2.1 := fun c j a b => by rw [hv4e, hv3e, hv2e]; show (if c = 70 ∧ j = 50 then _ else if c = 70 ∧ j = 30 then _ else if c = 70 ∧ j = 29 then _ else h.2.1 c j) = _; rw [if_neg (by omega), if_neg (by omega), if_neg (by omega)]
  have s6 : h4.2.1 70 6 = h.2.1 70 6 := by rw [hv4e, hv3e, hv2e]; rfl
  have s29 : h4.2.1 70 29 = h.2.1 70 6 := by rw [hv4e, hv3e, hv2e]; exact v1w
  have g5 : (-2147483648 : Int) ≤ (h4.2.1 70 5).toInt := (hv4.2.1 70 5).1
  have g6 : (h4.2.1 70 5).toInt ≤ 2147483647 := (hv4.2.1 70 5).2
  have g7 : (h4.2.1 70 5).toInt = u70_5.toInt := by rw [← (show u70_5 = h4.2.1 70 5 from (show u70_5 = h4.2.1 70 5 from by rw [hv4e]; exact (g_iI rfl (show u70_5 = h3.2.1 70 5 from by rw [hv3e]; exact (g_iI rfl (show u70_5 = h2.2.1 70 5 from by rw [hv2e]; exact (g_iI rfl u70_5w.symm).symm).symm).symm).symm).symm))] <;> exact (ti_rfl u70_5)
  refine go_invV (pc := 234) (sl := 0) (s_X8_laysAll2_f l (d + 591) hv4 (CKF.ve vec ckf) (by rw [s6]; exact TR.ve vec hpb.1.1) (by rw [s6]; exact WI.ve vec hpb.2.2.2)) mL_X8_250 iM_X8_laysAll sM_X8_laysAll (hv4.sh rfl) rfl rfl rfl (Nat.le_of_ble_eq_true rfl) (show d + 591 + 8 + 1 ≤ d + 600 by omega) (show 8 + (2 + 11) + 40 * (d + 591 + 8) ≤ 40 * (d + 600) by omega) (g_c0 hv4.ln) (Nat.le_of_ble_eq_true rfl) dX8_program_234 ?_
  intro r h8 hq _
  obtain ⟨rfl, hv8, f9, f10⟩ := hq
  have fx8 : FX KR h h8 := FX.tr fx4 (FX.mono (fun c j z => by unfold KR at z; unfold KAr; omega) f10)
  obtain ⟨u11, u11w⟩ : ∃ v : Int32, v = h8.2.1 70 5 := ⟨_, rfl⟩
  have u11e : (h8.2.1 70 5).toInt = u11.toInt := by rw [u11w]
  have u11l : -2147483648 ≤ u11.toInt := by rw [u11w]; exact (hv8.2.1 70 5).1
  have u11u : u11.toInt ≤ 2147483647 := by rw [u11w]; exact (hv8.2.1 70 5).2
  refine go_aload_n (pc := 237) rfl dX8_program_237 ?_
  refine gi_getF (pc := 238) (q := 75) hv8 fL_X8_23 rfl (Nat.le_of_ble_eq_true rfl) rfl (hv8.rf (by decide)) dX8_program_238 ?_
  refine go_aload_n (pc := 241) rfl dX8_program_241 ?_
  refine gi_get (pc := 242) (lo := 0) (hi := 1) hv8 fL_X8_228 rfl (Nat.le_of_ble_eq_true rfl) rfl rfl dX8_program_242 (fun v12 v12l v12u v12w => ?_)
  refine gi_iald (pc := 245) (lo := 0) (hi := 40) (len := 2) hv8 (ti_rfl v12) rfl (by omega) (by omega) (fun _ => rfl) dX8_program_245 (fun v13 v13l v13u v13w => ?_)
  exact gi_iret (pc := 246) (ti_rfl v13) ⟨_, rfl, (ti_lo _), (ti_hi _), ⟨_, hv8, (MW.trans (MW.mz _ _) (MW.mz _ _))⟩, (CKF.ve (VE.trans vec (VE.of hv4 hv8)) ckf), (fun _ => by rw [show h8.2.1 70 29 = h.2.1 70 6 from by rw [hv8.fy (j := 29) (by omega), ← hv4.fy (j := 29) (by omega)]; exact s29]; exact ⟨RD.ve (VE.trans vec (VE.of hv4 hv8)) hpb.1, TD.kx (KX.ve (m := 102) (by omega) (VE.trans vec (VE.of hv4 hv8))) (by omega) hpb.2.1, by rw [VE.v (VE.trans vec (VE.of hv4 hv8)) (by omega) (by omega)]; exact hpb.2.2.1⟩), fx8, (by rw [v13w, show v12 = h.2.1 70 6 from v12w.trans (show h8.2.1 70 29 = h.2.1 70 6 from by rw [hv8.fy (j := 29) (by omega), ← hv4.fy (j := 29) (by omega)]; exact s29)]; exact congrArg Int32.toInt ((VE.trans vec (VE.of hv4 hv8)) 75 _ (by omega) (by omega))), (VE.trans vec (VE.of hv4 hv8)), (by rw [(f10 70 5 (by unfold KAr; omega)).1, hv4e, hv3e, hv2e]; rfl), (show h8.2.1 70 29 = h.2.1 70 6 from by rw [hv8.fy (j := 29) (by omega), ← hv4.fy (j := 29) (by omega)]; exact s29), (by rw [show h8.2.1 70 30 = (1 : Int32) from by rw [hv8.fy (j := 30) (by omega), ← hv4.fy (j := 30) (by omega), hv4e, hv3e, hv2e]; rfl]; decide), ⟨st h4, f9, congrArg Int32.toInt (s6.trans (show h8.2.1 70 29 = h.2.1 70 6 from by rw [hv8.fy (j := 29) (by omega), ← hv4.fy (j := 29) (by omega)]; exact s29).symm)⟩⟩ hv8 dX8_program_246
set_option maxHeartbeats 4000000 in
set_option maxRecDepth 100000 in
theorem s_X8_program_b_f (l : Launch) (d : Nat) {P : PP} {h : HP} (hv : Iv P h) (ckf : CKF h.2.1) (hlv : LV h.2.1) (h0 : (h.2.1 70 5).toInt = 0) (hls : (h.2.1 70 29).toInt + (h.2.1 70 6).toInt = 1) : Go l RX8 cX8_program 2 (g_rm (d + 600) 0 0) "program" (some .int) 117 0 0 (fun _ _ => True) (fun r h' => ∃ v : Int32, r = some (.int v) ∧ -2147483648 ≤ v.toInt ∧ v.toInt ≤ 2147483647 ∧ (∃ Q : PP, Iv Q h' ∧ MW P Q) ∧ ((CKF h'.2.1)) ∧ (LV h'.2.1) ∧ (FX KR h h') ∧ (PgB h h' v.toInt (h.2.1 70 6).toInt) ∧ (v.toInt = -2 → OHx h.2.1 h'.2.1 (h.2.1 70 6).toInt) ∧ (0 ≤ v.toInt → ∃ s1 : ST, st h' = f_X8_laysAll2 s1 ∧ s1.1 70 6 = (h'.2.1 70 29).toInt) ∧ (v.toInt = -2 → FX KRt h h')) 0 61 [(0, .ref 70)] [] h := by
  obtain ⟨S, hS⟩ : ∃ S : Int, S = (h.2.1 70 6).toInt := ⟨_, rfl⟩
  have S0 : 0 ≤ S := by rw [hS]; exact (hv.2.1 70 6).1
  have S1 : S ≤ 1 := by rw [hS]; exact (hv.2.1 70 6).2
  have oh : OH h.2.1 h.2.1 S := OH.rfl _ _
  have ck : CKF h.2.1 → CKF h.2.1 := id
  rw [← hS] at hls
  have fx : FX KRt h h := FX.rfl
  have key : ∀ n : Nat, (∀ (l1 : Int32) (Qx : PP) (hx : HP), Iv Qx hx → MW P Qx → 0 ≤ l1.toInt → l1.toInt ≤ 5 → (PB hx.2.1 S) → (∃ t FL FG, PgT h t S ∧ PgL t S FL FG ∧ PgH t S FG hx l1.toInt) → OH h.2.1 hx.2.1 S → (CKF h.2.1 → CKF hx.2.1) → (-2147483648 : Int) ≤ (hx.2.1 70 5).toInt → (hx.2.1 70 5).toInt ≤ 2147483647 → FX KRt h hx → (10 - l1.toInt : Int) < n → Go l RX8 cX8_program 2 (g_rm (d + 600) 0 0) "program" (some .int) 117 0 0 (fun _ _ => True) (fun r h' => ∃ v : Int32, r = some (.int v) ∧ -2147483648 ≤ v.toInt ∧ v.toInt ≤ 2147483647 ∧ (∃ Q : PP, Iv Q h' ∧ MW P Q) ∧ ((CKF h'.2.1)) ∧ (LV h'.2.1) ∧ (FX KR h h') ∧ (PgB h h' v.toInt (h.2.1 70 6).toInt) ∧ (v.toInt = -2 → OHx h.2.1 h'.2.1 (h.2.1 70 6).toInt) ∧ (0 ≤ v.toInt → ∃ s1 : ST, st h' = f_X8_laysAll2 s1 ∧ s1.1 70 6 = (h'.2.1 70 29).toInt) ∧ (v.toInt = -2 → FX KRt h h')) 0 141 [(0, .ref 70), (1, .int l1)] [] hx) := by
    intro n
    induction n with
    | zero => exact (by intros; omega)
    | succ n ih =>
      refine ?_
      ·
        intro l1 Qx hx hvx sqx l1l l1u x0 x1 ohx ckx y0l y0u fxx hm
        obtain ⟨t, FL, FG, pgt, pgl, pgh⟩ := x1
        refine go_iload_n (pc := 141) rfl dX8_program_141 ?_
        refine go_aload_n (pc := 142) rfl dX8_program_142 ?_
        refine gi_getF (pc := 143) (q := 76) hvx fL_X8_26 rfl (Nat.le_of_ble_eq_true rfl) rfl (hvx.rf (by decide)) dX8_program_143 ?_
        refine go_aload_n (pc := 146) rfl dX8_program_146 ?_
        refine gi_get (pc := 147) (lo := 0) (hi := 1) hvx fL_X8_187 rfl (Nat.le_of_ble_eq_true rfl) rfl rfl dX8_program_147 (fun v1 v1l v1u v1w => ?_)
        have v1S : v1.toInt = S := by rw [v1w]; exact (congrArg Int32.toInt ohx.side).trans hS.symm
        refine gi_iald (pc := 150) (lo := 0) (hi := 5) (len := 2) hvx (ti_rfl v1) rfl (by omega) (by omega) (fun _ => rfl) dX8_program_150 (fun v2 v2l v2u v2w => ?_)
        have v2V : v2.toInt = V hx.2.1 76 S := by rw [v2w, v1S]; rfl
        refine gf_icmp_ge (pc := 151) (tgt := 205) (ti_rfl l1) (ti_rfl v2) (by decide) dX8_program_151 (fun q3 => ?_) (fun q3 => ?_)
        ·
          refine go_aload_n (pc := 205) rfl dX8_program_205 ?_
          refine go_invV (pc := 206) (sl := 0) (s_X8_isGood_f l (d + 598) hvx ) mL_X8_172 iM_X8_isGood sM_X8_isGood (hvx.sh rfl) rfl rfl rfl (Nat.le_of_ble_eq_true rfl) (show d + 598 + 1 + 1 ≤ d + 600 by omega) (show 8 + (1 + 11) + 40 * (d + 598 + 1) ≤ 40 * (d + 600) by omega) (g_c0 hvx.ln) (Nat.le_of_ble_eq_true rfl) dX8_program_206 ?_
          intro r h4 hq _
          obtain ⟨v8, rfl, v8l, v8u, rfl, f5, f6, f7⟩ := hq
          refine gf_if_ne (pc := 209) (tgt := 215) (ti_rfl v8) (by decide) dX8_program_209 (fun q9 => ?_) (fun q9 => ?_)
          ·
            have g10 : (-2147483648 : Int) ≤ (hx.2.1 70 5).toInt := (hvx.2.1 70 5).1
            have g11 : (hx.2.1 70 5).toInt ≤ 2147483647 := (hvx.2.1 70 5).2
            have sMc : (hx.2.1 70 6).toInt = S := (congrArg Int32.toInt ohx.side).trans hS.symm
            refine go_lv (lv2 := [(0, .ref 70)]) rfl (go_post ?_ (s_X8_program_c_f l d hvx (ckx ckf) (by rw [sMc]; exact x0)))
            intro r h' q
            obtain ⟨v, a, b, c, ⟨Q, e1, e2⟩, f1, f2, f3, f4, f5, f6, f7, f8, f9⟩ := q
            rw [sMc] at f4
            have pq : PgB h h' v.toInt S := ⟨t, pgt, PgQ.good pgl pgh (by omega) (by omega) f4 f5 f6 (by rw [f7]; exact sMc) f8⟩
            have v0 : 0 ≤ V hx.2.1 75 S := (hvx.2.1 75 _).1
            have po : v.toInt = -2 → OHx h.2.1 h'.2.1 S := fun z => absurd z (by omega)
            subst hS
            exact ⟨v, a, b, c, ⟨Q, e1, MW.trans sqx e2⟩, f1, f2, FX.tr (FX.mono (fun c j z => by unfold KR at z; unfold KRt; omega) fxx) f3, pq, po, fun _ => f9, fun z => absurd z (by omega)⟩
          ·
            refine go_bipush (pc := 212) (v := (-2)) (by decide) dX8_program_212 ?_
            have g12 : (-2147483648 : Int) ≤ (hx.2.1 70 5).toInt := (hvx.2.1 70 5).1
            have g13 : (hx.2.1 70 5).toInt ≤ 2147483647 := (hvx.2.1 70 5).2
            have pp14 : (CKF hx.2.1) := (ckx ckf)
            have pp15 : LV hx.2.1 := (LV.oh hv ohx S0 hls hlv)
            have pp16 : FX KR h hx := (FX.mono (fun c j z => by unfold KR at z; unfold KRt; omega) fxx)
            have pp17 : PgB h hx ((-2) : Int32).toInt S := ⟨t, pgt, PgQ.bad6 pgl pgh (by omega) (by decide)⟩
            have pp18 : ((-2) : Int32).toInt = -2 → OHx h.2.1 hx.2.1 S := (fun _ => ⟨ohx.1, ohx.2.2.1, ohx.2.2.2⟩)
            have pp19 : 0 ≤ ((-2) : Int32).toInt → ∃ s1 : ST, st hx = f_X8_laysAll2 s1 ∧ s1.1 70 6 = (hx.2.1 70 29).toInt := (fun z => absurd z (by decide))
            have pp20 : ((-2) : Int32).toInt = -2 → FX KRt h hx := (fun _ => fxx)
            subst hS
            exact gi_iret (pc := 214) (ti_c (v := (-2)) (a := (-2)) (by decide)) ⟨_, rfl, (ti_lo _), (ti_hi _), ⟨_, hvx, sqx⟩, pp14, pp15, pp16, pp17, pp18, pp19, pp20⟩ hvx dX8_program_214
        ·
          refine go_aload_n (pc := 154) rfl dX8_program_154 ?_
          refine go_invV (pc := 155) (sl := 0) (s_X8_isGood_f l (d + 598) hvx ) mL_X8_172 iM_X8_isGood sM_X8_isGood (hvx.sh rfl) rfl rfl rfl (Nat.le_of_ble_eq_true rfl) (show d + 598 + 1 + 1 ≤ d + 600 by omega) (show 8 + (1 + 11) + 40 * (d + 598 + 1) ≤ 40 * (d + 600) by omega) (g_c0 hvx.ln) (Nat.le_of_ble_eq_true rfl) dX8_program_155 ?_
          intro r h21 hq _
          obtain ⟨v25, rfl, v25l, v25u, rfl, f22, f23, f24⟩ := hq
          refine gf_if_eq (pc := 158) (tgt := 193) (ti_rfl v25) (by decide) dX8_program_158 (fun q26 => ?_) (fun q26 => ?_)
          ·
            refine go_aload_n (pc := 193) rfl dX8_program_193 ?_
            refine go_bipush (pc := 194) (v := 6) (by decide) dX8_program_194 ?_
            have g27 : (-2147483648 : Int) ≤ (hx.2.1 70 5).toInt := (hvx.2.1 70 5).1
            have g28 : (hx.2.1 70 5).toInt ≤ 2147483647 := (hvx.2.1 70 5).2
            refine go_invV (pc := 196) (sl := 0) (s_X8_fails_f l (d + 598) hvx 6 (by rw [show (6 : Int32).toInt = 6 from (ti_c (v := 6) (a := 6) (by decide))]; omega) (by rw [show (6 : Int32).toInt = 6 from (ti_c (v := 6) (a := 6) (by decide))]; omega)) mL_X8_180 iM_X8_fails sM_X8_fails (hvx.sh rfl) rfl rfl rfl (Nat.le_of_ble_eq_true rfl) (show d + 598 + 1 + 1 ≤ d + 600 by omega) (show 8 + (2 + 11) + 40 * (d + 598 + 1) ≤ 40 * (d + 600) by omega) (g_c0 hvx.ln) (Nat.le_of_ble_eq_true rfl) dX8_program_196 ?_
            intro r h29 hq _
            obtain ⟨rfl, hv29, f30, f31, f32, f33⟩ := hq
            try rw [show (6 : Int32).toInt = 6 from (ti_c (v := 6) (a := 6) (by decide))] at f30
            try rw [show (6 : Int32).toInt = 6 from (ti_c (v := 6) (a := 6) (by decide))] at f31
            try rw [show (6 : Int32).toInt = 6 from (ti_c (v := 6) (a := 6) (by decide))] at f32
            try rw [show (6 : Int32).toInt = 6 from (ti_c (v := 6) (a := 6) (by decide))] at f33
            have fx29 : FX KRt h h29 := FX.tr fxx f33
            have ve29 : VE hx.2.1 h29.2.1 := VE.of hvx hv29
            have oh29 : OH h.2.1 h29.2.1 S := ohx.trans (OH.of hvx hv29 S)
            have ck29 : CKF h.2.1 → CKF h29.2.1 := fun z => CKF.ve ve29 (ckx z)
            have n73_29 : V h29.2.1 73 S = V hx.2.1 73 S := ve29.v (by omega) (by omega)
            have n74_29 : V h29.2.1 74 S = V hx.2.1 74 S := ve29.v (by omega) (by omega)
            have n75_29 : V h29.2.1 75 S = V hx.2.1 75 S := ve29.v (by omega) (by omega)
            obtain ⟨u34, u34w⟩ : ∃ v : Int32, v = h29.2.1 70 5 := ⟨_, rfl⟩
            have u34e : (h29.2.1 70 5).toInt = u34.toInt := by rw [u34w]
            have u34l : -2147483648 ≤ u34.toInt := by rw [u34w]; exact (hv29.2.1 70 5).1
            have u34u : u34.toInt ≤ 2147483647 := by rw [u34w]; exact (hv29.2.1 70 5).2
            refine gf_iinc (pc := 199) (Nat.le_of_ble_eq_true rfl) rfl (ti_rfl l1) (ti_c (by decide)) (by omega) (by omega) dX8_program_199 (fun v35 e36 => ?_)
            refine go_lv (lv2 := [(0, .ref 70), (1, .int v35)]) rfl ?_
            refine go_goto (pc := 202) (tgt := 141) (by decide) dX8_program_202 ?_
            have z37 : (v35 : Int32).toInt = (l1.toInt + 1) := e36
            have g38 : (-2147483648 : Int) ≤ (h29.2.1 70 5).toInt := (hv29.2.1 70 5).1
            have g39 : (h29.2.1 70 5).toInt ≤ 2147483647 := (hv29.2.1 70 5).2
            have g40 : (h29.2.1 70 5).toInt = u34.toInt := by rw [← (show u34 = h29.2.1 70 5 from u34w)] <;> exact (ti_rfl u34)
            exact go_lv rfl (ih v35 _ h29 hv29 sqx (by omega) (by omega) (PB.kx (KX.ve (m := 102) (by omega) ve29) (by omega) x0) ⟨t, FL, FG, pgt, pgl, by rw [(show (v35 : Int32).toInt = l1.toInt + 1 from e36)]; exact PgH.stay pgh (by omega) f32 ve29⟩ oh29 ck29 (by omega) (by omega) fx29 (by omega))
          ·
            refine go_aload_n (pc := 161) rfl dX8_program_161 ?_
            refine gi_getF (pc := 162) (q := 101) hvx fL_X8_101 rfl (Nat.le_of_ble_eq_true rfl) rfl (hvx.rf (by decide)) dX8_program_162 ?_
            refine go_iconst (pc := 165) (v := 5) (by decide) dX8_program_165 ?_
            refine go_aload_n (pc := 166) rfl dX8_program_166 ?_
            refine gi_get (pc := 167) (lo := 0) (hi := 1) hvx fL_X8_187 rfl (Nat.le_of_ble_eq_true rfl) rfl rfl dX8_program_167 (fun v41 v41l v41u v41w => ?_)
            have v41r : v1 = hx.2.1 70 6 := v1w
            have v41q : TI v41 v1.toInt := by rw [v41w.trans v41r.symm]; exact (ti_rfl v1)
            refine gf_imul (pc := 170) (ti_c (v := 5) (a := 5) (by decide)) v41q (by omega) (by omega) dX8_program_170 (fun v42 e43 => ?_)
            refine go_iload_n (pc := 171) rfl dX8_program_171 ?_
            refine gf_iadd (pc := 172) e43 (ti_rfl l1) (by omega) (by omega) dX8_program_172 (fun v44 e45 => ?_)
            refine gi_zald (pc := 173) (lo := 0) (hi := 1) (len := 10) hvx e45 rfl (by omega) (by omega) (fun _ => rfl) dX8_program_173 (fun v46 v46l v46u v46w => ?_)
            have v46V : v46.toInt = V hx.2.1 101 (((5 * S) + l1.toInt)) := by rw [v46w, v1S]; rfl
            refine gf_if_ne (pc := 174) (tgt := 199) (ti_rfl v46) (by decide) dX8_program_174 (fun q47 => ?_) (fun q47 => ?_)
            ·
              refine gf_iinc (pc := 199) (Nat.le_of_ble_eq_true rfl) rfl (ti_rfl l1) (ti_c (by decide)) (by omega) (by omega) dX8_program_199 (fun v48 e49 => ?_)
              refine go_lv (lv2 := [(0, .ref 70), (1, .int v48)]) rfl ?_
              refine go_goto (pc := 202) (tgt := 141) (by decide) dX8_program_202 ?_
              have z50 : (v48 : Int32).toInt = (l1.toInt + 1) := e49
              have g51 : (-2147483648 : Int) ≤ (hx.2.1 70 5).toInt := (hvx.2.1 70 5).1
              have g52 : (hx.2.1 70 5).toInt ≤ 2147483647 := (hvx.2.1 70 5).2
              exact go_lv rfl (ih v48 _ hx hvx sqx (by omega) (by omega) x0 ⟨t, FL, FG, pgt, pgl, by rw [(show (v48 : Int32).toInt = l1.toInt + 1 from e49)]; exact PgH.flag pgh (Or.inl (by omega))⟩ ohx ckx (by omega) (by omega) fxx (by omega))
            ·
              refine go_aload_n (pc := 177) rfl dX8_program_177 ?_
              refine gi_getF (pc := 178) (q := 102) hvx fL_X8_105 rfl (Nat.le_of_ble_eq_true rfl) rfl (hvx.rf (by decide)) dX8_program_178 ?_
              refine go_iconst (pc := 181) (v := 5) (by decide) dX8_program_181 ?_
              refine go_aload_n (pc := 182) rfl dX8_program_182 ?_
              refine gi_get (pc := 183) (lo := 0) (hi := 1) hvx fL_X8_187 rfl (Nat.le_of_ble_eq_true rfl) rfl rfl dX8_program_183 (fun v53 v53l v53u v53w => ?_)
              have v53r : v1 = hx.2.1 70 6 := v1w
              have v53q : TI v53 v1.toInt := by rw [v53w.trans v53r.symm]; exact (ti_rfl v1)
              refine gf_imul (pc := 186) (ti_c (v := 5) (a := 5) (by decide)) v53q (by omega) (by omega) dX8_program_186 (fun v54 e55 => ?_)
              refine go_iload_n (pc := 187) rfl dX8_program_187 ?_
              refine gf_iadd (pc := 188) e55 (ti_rfl l1) (by omega) (by omega) dX8_program_188 (fun v56 e57 => ?_)
              refine gi_zald (pc := 189) (lo := 0) (hi := 1) (len := 10) hvx e57 rfl (by omega) (by omega) (fun _ => rfl) dX8_program_189 (fun v58 v58l v58u v58w => ?_)
              have v58V : v58.toInt = V hx.2.1 102 (((5 * S) + l1.toInt)) := by rw [v58w, v1S]; rfl
              refine gf_if_ne (pc := 190) (tgt := 199) (ti_rfl v58) (by decide) dX8_program_190 (fun q59 => ?_) (fun q59 => ?_)
              ·
                refine gf_iinc (pc := 199) (Nat.le_of_ble_eq_true rfl) rfl (ti_rfl l1) (ti_c (by decide)) (by omega) (by omega) dX8_program_199 (fun v60 e61 => ?_)
                refine go_lv (lv2 := [(0, .ref 70), (1, .int v60)]) rfl ?_
                refine go_goto (pc := 202) (tgt := 141) (by decide) dX8_program_202 ?_
                have z62 : (v60 : Int32).toInt = (l1.toInt + 1) := e61
                have g63 : (-2147483648 : Int) ≤ (hx.2.1 70 5).toInt := (hvx.2.1 70 5).1
                have g64 : (hx.2.1 70 5).toInt ≤ 2147483647 := (hvx.2.1 70 5).2
                exact go_lv rfl (ih v60 _ hx hvx sqx (by omega) (by omega) x0 ⟨t, FL, FG, pgt, pgl, by rw [(show (v60 : Int32).toInt = l1.toInt + 1 from e61)]; exact PgH.flag pgh (Or.inr (by omega))⟩ ohx ckx (by omega) (by omega) fxx (by omega))
              ·
                refine go_aload_n (pc := 193) rfl dX8_program_193 ?_
                refine go_bipush (pc := 194) (v := 6) (by decide) dX8_program_194 ?_
                have g65 : (-2147483648 : Int) ≤ (hx.2.1 70 5).toInt := (hvx.2.1 70 5).1
                have g66 : (hx.2.1 70 5).toInt ≤ 2147483647 := (hvx.2.1 70 5).2
                refine go_invV (pc := 196) (sl := 0) (s_X8_fails_f l (d + 598) hvx 6 (by rw [show (6 : Int32).toInt = 6 from (ti_c (v := 6) (a := 6) (by decide))]; omega) (by rw [show (6 : Int32).toInt = 6 from (ti_c (v := 6) (a := 6) (by decide))]; omega)) mL_X8_180 iM_X8_fails sM_X8_fails (hvx.sh rfl) rfl rfl rfl (Nat.le_of_ble_eq_true rfl) (show d + 598 + 1 + 1 ≤ d + 600 by omega) (show 8 + (2 + 11) + 40 * (d + 598 + 1) ≤ 40 * (d + 600) by omega) (g_c0 hvx.ln) (Nat.le_of_ble_eq_true rfl) dX8_program_196 ?_
                intro r h67 hq _
                obtain ⟨rfl, hv67, f68, f69, f70, f71⟩ := hq
                try rw [show (6 : Int32).toInt = 6 from (ti_c (v := 6) (a := 6) (by decide))] at f68
                try rw [show (6 : Int32).toInt = 6 from (ti_c (v := 6) (a := 6) (by decide))] at f69
                try rw [show (6 : Int32).toInt = 6 from (ti_c (v := 6) (a := 6) (by decide))] at f70
                try rw [show (6 : Int32).toInt = 6 from (ti_c (v := 6) (a := 6) (by decide))] at f71
                have fx67 : FX KRt h h67 := FX.tr fxx f71
                have ve67 : VE hx.2.1 h67.2.1 := VE.of hvx hv67
                have oh67 : OH h.2.1 h67.2.1 S := ohx.trans (OH.of hvx hv67 S)
                have ck67 : CKF h.2.1 → CKF h67.2.1 := fun z => CKF.ve ve67 (ckx z)
                have n73_67 : V h67.2.1 73 S = V hx.2.1 73 S := ve67.v (by omega) (by omega)
                have n74_67 : V h67.2.1 74 S = V hx.2.1 74 S := ve67.v (by omega) (by omega)
                have n75_67 : V h67.2.1 75 S = V hx.2.1 75 S := ve67.v (by omega) (by omega)
                obtain ⟨u72, u72w⟩ : ∃ v : Int32, v = h67.2.1 70 5 := ⟨_, rfl⟩
                have u72e : (h67.2.1 70 5).toInt = u72.toInt := by rw [u72w]
                have u72l : -2147483648 ≤ u72.toInt := by rw [u72w]; exact (hv67.2.1 70 5).1
                have u72u : u72.toInt ≤ 2147483647 := by rw [u72w]; exact (hv67.2.1 70 5).2
                refine gf_iinc (pc := 199) (Nat.le_of_ble_eq_true rfl) rfl (ti_rfl l1) (ti_c (by decide)) (by omega) (by omega) dX8_program_199 (fun v73 e74 => ?_)
                refine go_lv (lv2 := [(0, .ref 70), (1, .int v73)]) rfl ?_
                refine go_goto (pc := 202) (tgt := 141) (by decide) dX8_program_202 ?_
                have z75 : (v73 : Int32).toInt = (l1.toInt + 1) := e74
                have g76 : (-2147483648 : Int) ≤ (h67.2.1 70 5).toInt := (hv67.2.1 70 5).1
                have g77 : (h67.2.1 70 5).toInt ≤ 2147483647 := (hv67.2.1 70 5).2
                have g78 : (h67.2.1 70 5).toInt = u72.toInt := by rw [← (show u72 = h67.2.1 70 5 from u72w)] <;> exact (ti_rfl u72)
                exact go_lv rfl (ih v73 _ h67 hv67 sqx (by omega) (by omega) (PB.kx (KX.ve (m := 102) (by omega) ve67) (by omega) x0) ⟨t, FL, FG, pgt, pgl, by rw [(show (v73 : Int32).toInt = l1.toInt + 1 from e74)]; exact PgH.non pgl pgh (by omega) (by omega) (by omega) (by omega) (by omega) f70 ve67⟩ oh67 ck67 (by omega) (by omega) fx67 (by omega))
  obtain ⟨u70_5, u70_5w⟩ : ∃ v : Int32, v = h.2.1 70 5 := ⟨_, rfl⟩
  have u70_5e : (h.2.1 70 5).toInt = u70_5.toInt := by rw [u70_5w]
  have u70_5l : -2147483648 ≤ u70_5.toInt := by rw [u70_5w]; exact (hv.2.1 70 5).1
  have u70_5u : u70_5.toInt ≤ 2147483647 := by rw [u70_5w]; exact (hv.2.1 70 5).2
  refine go_aload_n (pc := 61) rfl dX8_program_61 ?_
  refine gi_getF (pc := 62) (q := 73) hv fL_X8_16 rfl (Nat.le_of_ble_eq_true rfl) rfl (hv.rf (by decide)) dX8_program_62 ?_
  refine go_aload_n (pc := 65) rfl dX8_program_65 ?_
  refine gi_get (pc := 66) (lo := 0) (hi := 1) hv fL_X8_187 rfl (Nat.le_of_ble_eq_true rfl) rfl rfl dX8_program_66 (fun v79 v79l v79u v79w => ?_)
  have v79S : v79.toInt = S := by rw [v79w]; exact (congrArg Int32.toInt oh.side).trans hS.symm
  refine go_iconst (pc := 69) (v := 0) (by decide) dX8_program_69 ?_
  refine gi_fst (pc := 70) (lo := 0) (hi := 130) (len := 2) hv (ti_rfl v79) (ti_c (v := 0) (a := 0) (by decide)) rfl (by omega) (by omega) (fun _ => rfl) (by omega) (by omega) (by omega) dX8_program_70 (fun h80 hv80 hv80e => ?_)
  have fx80 : FX KRt h h80 := FX.pI fx hv80e (by unfold KRt; omega)
  refine go_aload_n (pc := 71) rfl dX8_program_71 ?_
  refine gi_getF (pc := 72) (q := 74) hv80 fL_X8_20 rfl (Nat.le_of_ble_eq_true rfl) rfl (hv80.rf (by decide)) dX8_program_72 ?_
  refine go_aload_n (pc := 75) rfl dX8_program_75 ?_
  refine gi_get (pc := 76) (lo := 0) (hi := 1) hv80 fL_X8_187 rfl (Nat.le_of_ble_eq_true rfl) rfl rfl dX8_program_76 (fun v81 v81l v81u v81w => ?_)
  have v81r : v79 = h80.2.1 70 6 := (show v79 = h80.2.1 70 6 from by rw [hv80e]; exact (g_iI rfl v79w.symm).symm)
  have v81q : TI v81 v79.toInt := by rw [v81w.trans v81r.symm]; exact (ti_rfl v79)
  refine go_iconst (pc := 79) (v := 0) (by decide) dX8_program_79 ?_
  refine gi_fst (pc := 80) (lo := 0) (hi := 280) (len := 2) hv80 v81q (ti_c (v := 0) (a := 0) (by decide)) rfl (by omega) (by omega) (fun _ => rfl) (by omega) (by omega) (by omega) dX8_program_80 (fun h82 hv82 hv82e => ?_)
  have fx82 : FX KRt h h82 := FX.pI fx80 hv82e (by unfold KRt; omega)
  refine go_aload_n (pc := 81) rfl dX8_program_81 ?_
  refine gi_getF (pc := 82) (q := 75) hv82 fL_X8_23 rfl (Nat.le_of_ble_eq_true rfl) rfl (hv82.rf (by decide)) dX8_program_82 ?_
  refine go_aload_n (pc := 85) rfl dX8_program_85 ?_
  refine gi_get (pc := 86) (lo := 0) (hi := 1) hv82 fL_X8_187 rfl (Nat.le_of_ble_eq_true rfl) rfl rfl dX8_program_86 (fun v83 v83l v83u v83w => ?_)
  have v83r : v79 = h82.2.1 70 6 := (show v79 = h82.2.1 70 6 from by rw [hv82e]; exact (g_iI rfl (show v79 = h80.2.1 70 6 from by rw [hv80e]; exact (g_iI rfl v79w.symm).symm).symm).symm)
  have v83q : TI v83 v79.toInt := by rw [v83w.trans v83r.symm]; exact (ti_rfl v79)
  refine go_iconst (pc := 89) (v := 0) (by decide) dX8_program_89 ?_
  refine gi_fst (pc := 90) (lo := 0) (hi := 40) (len := 2) hv82 v83q (ti_c (v := 0) (a := 0) (by decide)) rfl (by omega) (by omega) (fun _ => rfl) (by omega) (by omega) (by omega) dX8_program_90 (fun h84 hv84 hv84e => ?_)
  have fx84 : FX KRt h h84 := FX.pI fx82 hv84e (by unfold KRt; omega)
  refine go_aload_n (pc := 91) rfl dX8_program_91 ?_
  refine gi_getF (pc := 92) (q := 76) hv84 fL_X8_26 rfl (Nat.le_of_ble_eq_true rfl) rfl (hv84.rf (by decide)) dX8_program_92 ?_
  refine go_aload_n (pc := 95) rfl dX8_program_95 ?_
  refine gi_get (pc := 96) (lo := 0) (hi := 1) hv84 fL_X8_187 rfl (Nat.le_of_ble_eq_true rfl) rfl rfl dX8_program_96 (fun v85 v85l v85u v85w => ?_)
  have v85r : v79 = h84.2.1 70 6 := (show v79 = h84.2.1 70 6 from by rw [hv84e]; exact (g_iI rfl (show v79 = h82.2.1 70 6 from by rw [hv82e]; exact (g_iI rfl (show v79 = h80.2.1 70 6 from by rw [hv80e]; exact (g_iI rfl v79w.symm).symm).symm).symm).symm).symm)
  have v85q : TI v85 v79.toInt := by rw [v85w.trans v85r.symm]; exact (ti_rfl v79)
  refine go_iconst (pc := 99) (v := 0) (by decide) dX8_program_99 ?_
  refine gi_fst (pc := 100) (lo := 0) (hi := 5) (len := 2) hv84 v85q (ti_c (v := 0) (a := 0) (by decide)) rfl (by omega) (by omega) (fun _ => rfl) (by omega) (by omega) (by omega) dX8_program_100 (fun h86 hv86 hv86e => ?_)
  have fx86 : FX KRt h h86 := FX.pI fx84 hv86e (by unfold KRt; omega)
  refine go_aload_n (pc := 101) rfl dX8_program_101 ?_
  have E86 : h86.2.1 = (w1 (w1 (w1 (w1 h.2.1 73 S (0 : Int32)) 74 S (0 : Int32)) 75 S (0 : Int32)) 76 S (0 : Int32)) := by
    rw [hv86e, hv84e, hv82e, hv80e]
    rw [v79S]
    rfl
  have oh86 : OH h.2.1 h86.2.1 S := by rw [E86]; exact ((((oh.trans (OH.w 1 rfl (by omega) (by omega) (by omega) (by omega))).trans (OH.w 1 rfl (by omega) (by omega) (by omega) (by omega))).trans (OH.w 1 rfl (by omega) (by omega) (by omega) (by omega))).trans (OH.w 1 rfl (by omega) (by omega) (by omega) (by omega)))
  have n73_86 : V h86.2.1 73 S = 0 := by rw [E86, V_ne (by omega), V_ne (by omega), V_ne (by omega), V_eq]; exact (ti_c (v := 0) (a := 0) (by decide))
  have n74_86 : V h86.2.1 74 S = 0 := by rw [E86, V_ne (by omega), V_ne (by omega), V_eq]; exact (ti_c (v := 0) (a := 0) (by decide))
  have n75_86 : V h86.2.1 75 S = 0 := by rw [E86, V_ne (by omega), V_eq]; exact (ti_c (v := 0) (a := 0) (by decide))
  have ck86 : CKF h.2.1 → CKF h86.2.1 := fun z => by rw [E86]; exact (CKF.w (by omega) (CKF.w (by omega) (CKF.w (by omega) (CKF.w (by omega) (ck z)))))
  have g87 : (-2147483648 : Int) ≤ (h86.2.1 70 5).toInt := (hv86.2.1 70 5).1
  have g88 : (h86.2.1 70 5).toInt ≤ 2147483647 := (hv86.2.1 70 5).2
  have g89 : (h86.2.1 70 5).toInt = u70_5.toInt := by rw [← (show u70_5 = h86.2.1 70 5 from (show u70_5 = h86.2.1 70 5 from by rw [hv86e]; exact (g_iI rfl (show u70_5 = h84.2.1 70 5 from by rw [hv84e]; exact (g_iI rfl (show u70_5 = h82.2.1 70 5 from by rw [hv82e]; exact (g_iI rfl (show u70_5 = h80.2.1 70 5 from by rw [hv80e]; exact (g_iI rfl u70_5w.symm).symm).symm).symm).symm).symm).symm).symm))] <;> exact (ti_rfl u70_5)
  have n76 : V h86.2.1 76 S = 0 := by rw [E86, V_eq]; exact (ti_c (v := 0) (a := 0) (by decide))
  have sM90 : (h86.2.1 70 6).toInt = S := (congrArg Int32.toInt oh86.side).trans hS.symm
  have g91 : (-2147483648 : Int) ≤ (h86.2.1 70 5).toInt := (hv86.2.1 70 5).1
  have g92 : (h86.2.1 70 5).toInt ≤ 2147483647 := (hv86.2.1 70 5).2
  have g93 : (h86.2.1 70 5).toInt = u70_5.toInt := by rw [← (show u70_5 = h86.2.1 70 5 from (show u70_5 = h86.2.1 70 5 from by rw [hv86e]; exact (g_iI rfl (show u70_5 = h84.2.1 70 5 from by rw [hv84e]; exact (g_iI rfl (show u70_5 = h82.2.1 70 5 from by rw [hv82e]; exact (g_iI rfl (show u70_5 = h80.2.1 70 5 from by rw [hv80e]; exact (g_iI rfl u70_5w.symm).symm).symm).symm).symm).symm).symm).symm))] <;> exact (ti_rfl u70_5)
  refine go_invV (pc := 102) (sl := 0) (s_X8_readAll_f l (d + 574) hv86 (by rw [sM90]; exact ⟨by omega, by omega, by omega, by omega, by omega⟩)) mL_X8_231 iM_X8_readAll sM_X8_readAll (hv86.sh rfl) rfl rfl rfl (Nat.le_of_ble_eq_true rfl) (show d + 574 + 25 + 1 ≤ d + 600 by omega) (show 8 + (3 + 11) + 40 * (d + 574 + 25) ≤ 40 * (d + 600) by omega) (g_c0 hv86.ln) (Nat.le_of_ble_eq_true rfl) dX8_program_102 ?_
  intro r h94 hq _
  obtain ⟨rfl, ⟨Q95, hv94, sq96⟩, f97, f98, f99, f100, f101⟩ := hq
  rw [sM90] at f97
  rw [sM90] at f100
  have oh94 : OH h.2.1 h94.2.1 S := oh86.trans f100
  have ck94 : CKF h.2.1 → CKF h94.2.1 := fun z => f101 (ck86 z)
  have fx94 : FX KRt h h94 := FX.tr fx86 f99
  obtain ⟨u102, u102w⟩ : ∃ v : Int32, v = h94.2.1 70 5 := ⟨_, rfl⟩
  have u102e : (h94.2.1 70 5).toInt = u102.toInt := by rw [u102w]
  have u102l : -2147483648 ≤ u102.toInt := by rw [u102w]; exact (hv94.2.1 70 5).1
  have u102u : u102.toInt ≤ 2147483647 := by rw [u102w]; exact (hv94.2.1 70 5).2
  have pgt : PgT h (st h86) S := ⟨fun c j z => by
      show (h86.2.1 c j).toInt = _
      rw [E86]
      show (if c = 76 ∧ j = S.toNat then _ else if c = 75 ∧ j = S.toNat then _ else if c = 74 ∧ j = S.toNat then _ else if c = 73 ∧ j = S.toNat then _ else h.2.1 c j : Int32).toInt = _
      rw [if_neg (show ¬ (c = 76 ∧ j = S.toNat) by omega), if_neg (show ¬ (c = 75 ∧ j = S.toNat) by omega), if_neg (show ¬ (c = 74 ∧ j = S.toNat) by omega), if_neg (show ¬ (c = 73 ∧ j = S.toNat) by omega)], n73_86, n74_86, n75_86, n76⟩
  refine go_aload_n (pc := 105) rfl dX8_program_105 ?_
  refine go_invV (pc := 106) (sl := 0) (s_X8_isGood_f l (d + 598) hv94 ) mL_X8_172 iM_X8_isGood sM_X8_isGood (hv94.sh rfl) rfl rfl rfl (Nat.le_of_ble_eq_true rfl) (show d + 598 + 1 + 1 ≤ d + 600 by omega) (show 8 + (1 + 11) + 40 * (d + 598 + 1) ≤ 40 * (d + 600) by omega) (g_c0 hv94.ln) (Nat.le_of_ble_eq_true rfl) dX8_program_106 ?_
  intro r h103 hq _
  obtain ⟨v107, rfl, v107l, v107u, rfl, f104, f105, f106⟩ := hq
  refine gf_if_eq (pc := 109) (tgt := 124) (ti_rfl v107) (by decide) dX8_program_109 (fun q108 => ?_) (fun q108 => ?_)
  ·
    refine go_aload_n (pc := 124) rfl dX8_program_124 ?_
    refine go_invV (pc := 125) (sl := 0) (s_X8_isGood_f l (d + 598) hv94 ) mL_X8_172 iM_X8_isGood sM_X8_isGood (hv94.sh rfl) rfl rfl rfl (Nat.le_of_ble_eq_true rfl) (show d + 598 + 1 + 1 ≤ d + 600 by omega) (show 8 + (1 + 11) + 40 * (d + 598 + 1) ≤ 40 * (d + 600) by omega) (g_c0 hv94.ln) (Nat.le_of_ble_eq_true rfl) dX8_program_125 ?_
    intro r h109 hq _
    obtain ⟨v113, rfl, v113l, v113u, rfl, f110, f111, f112⟩ := hq
    refine gf_if_eq (pc := 128) (tgt := 205) (ti_rfl v113) (by decide) dX8_program_128 (fun q114 => ?_) (fun q114 => ?_)
    ·
      refine go_aload_n (pc := 205) rfl dX8_program_205 ?_
      refine go_invV (pc := 206) (sl := 0) (s_X8_isGood_f l (d + 598) hv94 ) mL_X8_172 iM_X8_isGood sM_X8_isGood (hv94.sh rfl) rfl rfl rfl (Nat.le_of_ble_eq_true rfl) (show d + 598 + 1 + 1 ≤ d + 600 by omega) (show 8 + (1 + 11) + 40 * (d + 598 + 1) ≤ 40 * (d + 600) by omega) (g_c0 hv94.ln) (Nat.le_of_ble_eq_true rfl) dX8_program_206 ?_
      intro r h115 hq _
      obtain ⟨v119, rfl, v119l, v119u, rfl, f116, f117, f118⟩ := hq
      refine gf_if_ne (pc := 209) (tgt := 215) (ti_rfl v119) (by decide) dX8_program_209 (fun q120 => ?_) (fun q120 => ?_)
      ·
        exact False.elim (by omega)
      ·
        refine go_bipush (pc := 212) (v := (-2)) (by decide) dX8_program_212 ?_
        have g121 : (-2147483648 : Int) ≤ (h94.2.1 70 5).toInt := (hv94.2.1 70 5).1
        have g122 : (h94.2.1 70 5).toInt ≤ 2147483647 := (hv94.2.1 70 5).2
        have g123 : (h94.2.1 70 5).toInt = u102.toInt := by rw [← (show u102 = h94.2.1 70 5 from u102w)] <;> exact (ti_rfl u102)
        have pp124 : (CKF h94.2.1) := (ck94 ckf)
        have pp125 : LV h94.2.1 := (LV.oh hv oh94 S0 hls hlv)
        have pp126 : FX KR h h94 := (FX.mono (fun c j z => by unfold KR at z; unfold KRt; omega) fx94)
        have pp127 : PgB h h94 ((-2) : Int32).toInt S := ⟨_, pgt, PgQ.bad f98 (by omega) (by decide)⟩
        have pp128 : ((-2) : Int32).toInt = -2 → OHx h.2.1 h94.2.1 S := (fun _ => ⟨oh94.1, oh94.2.2.1, oh94.2.2.2⟩)
        have pp129 : 0 ≤ ((-2) : Int32).toInt → ∃ s1 : ST, st h94 = f_X8_laysAll2 s1 ∧ s1.1 70 6 = (h94.2.1 70 29).toInt := (fun z => absurd z (by decide))
        have pp130 : ((-2) : Int32).toInt = -2 → FX KRt h h94 := (fun _ => fx94)
        subst hS
        exact gi_iret (pc := 214) (ti_c (v := (-2)) (a := (-2)) (by decide)) ⟨_, rfl, (ti_lo _), (ti_hi _), ⟨_, hv94, (MW.trans (MW.trans (MW.trans (MW.trans (MW.mz _ _) (MW.mz _ _)) (MW.mz _ _)) (MW.mz _ _)) sq96)⟩, pp124, pp125, pp126, pp127, pp128, pp129, pp130⟩ hv94 dX8_program_214
    ·
      refine go_aload_n (pc := 131) rfl dX8_program_131 ?_
      exact False.elim (by omega)
  ·
    refine go_aload_n (pc := 112) rfl dX8_program_112 ?_
    have sM131 : (h94.2.1 70 6).toInt = S := (congrArg Int32.toInt oh94.side).trans hS.symm
    refine go_invV (pc := 113) (sl := 0) (s_X8_isTold_f l (d + 598) hv94 ) mL_X8_234 iM_X8_isTold sM_X8_isTold (hv94.sh rfl) rfl rfl rfl (Nat.le_of_ble_eq_true rfl) (show d + 598 + 1 + 1 ≤ d + 600 by omega) (show 8 + (2 + 11) + 40 * (d + 598 + 1) ≤ 40 * (d + 600) by omega) (g_c0 hv94.ln) (Nat.le_of_ble_eq_true rfl) dX8_program_113 ?_
    intro r h132 hq _
    obtain ⟨v135, rfl, v135l, v135u, rfl, f133, f134⟩ := hq
    rw [sM131] at f133
    refine gf_if_ne (pc := 116) (tgt := 124) (ti_rfl v135) (by decide) dX8_program_116 (fun q136 => ?_) (fun q136 => ?_)
    ·
      refine go_aload_n (pc := 124) rfl dX8_program_124 ?_
      refine go_invV (pc := 125) (sl := 0) (s_X8_isGood_f l (d + 598) hv94 ) mL_X8_172 iM_X8_isGood sM_X8_isGood (hv94.sh rfl) rfl rfl rfl (Nat.le_of_ble_eq_true rfl) (show d + 598 + 1 + 1 ≤ d + 600 by omega) (show 8 + (1 + 11) + 40 * (d + 598 + 1) ≤ 40 * (d + 600) by omega) (g_c0 hv94.ln) (Nat.le_of_ble_eq_true rfl) dX8_program_125 ?_
      intro r h137 hq _
      obtain ⟨v141, rfl, v141l, v141u, rfl, f138, f139, f140⟩ := hq
      refine gf_if_eq (pc := 128) (tgt := 205) (ti_rfl v141) (by decide) dX8_program_128 (fun q142 => ?_) (fun q142 => ?_)
      ·
        refine go_aload_n (pc := 205) rfl dX8_program_205 ?_
        refine go_invV (pc := 206) (sl := 0) (s_X8_isGood_f l (d + 598) hv94 ) mL_X8_172 iM_X8_isGood sM_X8_isGood (hv94.sh rfl) rfl rfl rfl (Nat.le_of_ble_eq_true rfl) (show d + 598 + 1 + 1 ≤ d + 600 by omega) (show 8 + (1 + 11) + 40 * (d + 598 + 1) ≤ 40 * (d + 600) by omega) (g_c0 hv94.ln) (Nat.le_of_ble_eq_true rfl) dX8_program_206 ?_
        intro r h143 hq _
        obtain ⟨v147, rfl, v147l, v147u, rfl, f144, f145, f146⟩ := hq
        refine gf_if_ne (pc := 209) (tgt := 215) (ti_rfl v147) (by decide) dX8_program_209 (fun q148 => ?_) (fun q148 => ?_)
        ·
          exact False.elim (by omega)
        ·
          refine go_bipush (pc := 212) (v := (-2)) (by decide) dX8_program_212 ?_
          have g149 : (-2147483648 : Int) ≤ (h94.2.1 70 5).toInt := (hv94.2.1 70 5).1
          have g150 : (h94.2.1 70 5).toInt ≤ 2147483647 := (hv94.2.1 70 5).2
          have g151 : (h94.2.1 70 5).toInt = u102.toInt := by rw [← (show u102 = h94.2.1 70 5 from u102w)] <;> exact (ti_rfl u102)
          have pp152 : (CKF h94.2.1) := (ck94 ckf)
          have pp153 : LV h94.2.1 := (LV.oh hv oh94 S0 hls hlv)
          have pp154 : FX KR h h94 := (FX.mono (fun c j z => by unfold KR at z; unfold KRt; omega) fx94)
          have pp155 : PgB h h94 ((-2) : Int32).toInt S := ⟨_, pgt, PgQ.bad f98 (by omega) (by decide)⟩
          have pp156 : ((-2) : Int32).toInt = -2 → OHx h.2.1 h94.2.1 S := (fun _ => ⟨oh94.1, oh94.2.2.1, oh94.2.2.2⟩)
          have pp157 : 0 ≤ ((-2) : Int32).toInt → ∃ s1 : ST, st h94 = f_X8_laysAll2 s1 ∧ s1.1 70 6 = (h94.2.1 70 29).toInt := (fun z => absurd z (by decide))
          have pp158 : ((-2) : Int32).toInt = -2 → FX KRt h h94 := (fun _ => fx94)
          subst hS
          exact gi_iret (pc := 214) (ti_c (v := (-2)) (a := (-2)) (by decide)) ⟨_, rfl, (ti_lo _), (ti_hi _), ⟨_, hv94, (MW.trans (MW.trans (MW.trans (MW.trans (MW.mz _ _) (MW.mz _ _)) (MW.mz _ _)) (MW.mz _ _)) sq96)⟩, pp152, pp153, pp154, pp155, pp156, pp157, pp158⟩ hv94 dX8_program_214
      ·
        refine go_aload_n (pc := 131) rfl dX8_program_131 ?_
        have rdq := f97 (by omega)
        have tdq := f133 (by omega)
        have sM159 : (h94.2.1 70 6).toInt = S := (congrArg Int32.toInt oh94.side).trans hS.symm
        have g160 : (-2147483648 : Int) ≤ (h94.2.1 70 5).toInt := (hv94.2.1 70 5).1
        have g161 : (h94.2.1 70 5).toInt ≤ 2147483647 := (hv94.2.1 70 5).2
        have g162 : (h94.2.1 70 5).toInt = u102.toInt := by rw [← (show u102 = h94.2.1 70 5 from u102w)] <;> exact (ti_rfl u102)
        refine go_invV (pc := 132) (sl := 0) (s_X8_laysWays_f l (d + 58) hv94 (by rw [sM159]; exact rdq.1)) mL_X8_237 iM_X8_laysWays sM_X8_laysWays (hv94.sh rfl) rfl rfl rfl (Nat.le_of_ble_eq_true rfl) (show d + 58 + 541 + 1 ≤ d + 600 by omega) (show 8 + (5 + 11) + 40 * (d + 58 + 541) ≤ 40 * (d + 600) by omega) (g_c0 hv94.ln) (Nat.le_of_ble_eq_true rfl) dX8_program_132 ?_
        intro r h163 hq _
        obtain ⟨rfl, ⟨Q164, hv163, sq165⟩, f166, f167, f168, f169, f170, f171⟩ := hq
        rw [sM159] at f167
        rw [sM159] at f170
        have oh163 : OH h.2.1 h163.2.1 S := oh94.trans f170
        have ck163 : CKF h.2.1 → CKF h163.2.1 := fun z => f171 (ck94 z)
        have fx163 : FX KRt h h163 := FX.tr fx94 (FX.mono (fun c j z => by unfold KRt at z; unfold KRM; omega) f169)
        obtain ⟨u172, u172w⟩ : ∃ v : Int32, v = h163.2.1 70 5 := ⟨_, rfl⟩
        have u172e : (h163.2.1 70 5).toInt = u172.toInt := by rw [u172w]
        have u172l : -2147483648 ≤ u172.toInt := by rw [u172w]; exact (hv163.2.1 70 5).1
        have u172u : u172.toInt ≤ 2147483647 := by rw [u172w]; exact (hv163.2.1 70 5).2
        refine go_aload_n (pc := 135) rfl dX8_program_135 ?_
        have sM173 : (h163.2.1 70 6).toInt = S := (congrArg Int32.toInt oh163.side).trans hS.symm
        have g174 : (-2147483648 : Int) ≤ (h163.2.1 70 5).toInt := (hv163.2.1 70 5).1
        have g175 : (h163.2.1 70 5).toInt ≤ 2147483647 := (hv163.2.1 70 5).2
        have g176 : (h163.2.1 70 5).toInt = u172.toInt := by rw [← (show u172 = h163.2.1 70 5 from u172w)] <;> exact (ti_rfl u172)
        refine go_invV (pc := 136) (sl := 0) (s_X8_laysMay_f l (d + 593) hv163 (ck163 ckf)) mL_X8_240 iM_X8_laysMay sM_X8_laysMay (hv163.sh rfl) rfl rfl rfl (Nat.le_of_ble_eq_true rfl) (show d + 593 + 6 + 1 ≤ d + 600 by omega) (show 8 + (6 + 11) + 40 * (d + 593 + 6) ≤ 40 * (d + 600) by omega) (g_c0 hv163.ln) (Nat.le_of_ble_eq_true rfl) dX8_program_136 ?_
        intro r h177 hq _
        obtain ⟨rfl, ⟨Q178, hv177, sq179⟩, f180, f181, f182, f183, f184, f185⟩ := hq
        rw [sM173] at f182
        rw [sM173] at f183
        rw [sM173] at f184
        have oh177 : OH h.2.1 h177.2.1 S := oh163.trans f184
        have ck177 : CKF h.2.1 → CKF h177.2.1 := fun z => f185 (ck163 z)
        have fx177 : FX KRt h h177 := FX.tr fx163 (FX.mono (fun c j z => by unfold KRt at z; unfold KRM; omega) f181)
        obtain ⟨u186, u186w⟩ : ∃ v : Int32, v = h177.2.1 70 5 := ⟨_, rfl⟩
        have u186e : (h177.2.1 70 5).toInt = u186.toInt := by rw [u186w]
        have u186l : -2147483648 ≤ u186.toInt := by rw [u186w]; exact (hv177.2.1 70 5).1
        have u186u : u186.toInt ≤ 2147483647 := by rw [u186w]; exact (hv177.2.1 70 5).2
        have pb0 : PB h177.2.1 S := PB.kx f180 (by omega) (PB.ways f166 rdq.1 tdq rdq.2 f167)
        have pgl : PgL (st h86) S h163.2.1 h177.2.1 := PgL.mk hv94 f98 (by omega) rdq.1 (ck94 ckf) (by rw [← f134]; omega) tdq f168 f166 f180 f182 f183
        have pgh : PgH (st h86) S h177.2.1 h177 (0 : Int32).toInt := PgH.mk f98 (by omega) f169 f181
        refine go_iconst (pc := 139) (v := 0) (by decide) dX8_program_139 ?_
        refine go_istore_n (pc := 140) (Nat.le_of_ble_eq_true rfl) dX8_program_140 (go_lv (lv2 := [(0, .ref 70), (1, .int 0)]) rfl ?_)
        have z187 : (0 : Int32).toInt = 0 := (ti_c (v := 0) (a := 0) (by decide))
        have g188 : (-2147483648 : Int) ≤ (h177.2.1 70 5).toInt := (hv177.2.1 70 5).1
        have g189 : (h177.2.1 70 5).toInt ≤ 2147483647 := (hv177.2.1 70 5).2
        have g190 : (h177.2.1 70 5).toInt = u186.toInt := by rw [← (show u186 = h177.2.1 70 5 from u186w)] <;> exact (ti_rfl u186)
        exact go_lv rfl ((key 101) 0 _ h177 hv177 (MW.trans (MW.trans (MW.trans (MW.trans (MW.trans (MW.trans (MW.mz _ _) (MW.mz _ _)) (MW.mz _ _)) (MW.mz _ _)) sq96) sq165) sq179) (by omega) (by omega) pb0 ⟨_, _, _, pgt, pgl, pgh⟩ oh177 ck177 (by omega) (by omega) fx177 (by omega))
    ·
      refine go_aload_n (pc := 119) rfl dX8_program_119 ?_
      refine go_iconst (pc := 120) (v := 5) (by decide) dX8_program_120 ?_
      have g191 : (-2147483648 : Int) ≤ (h94.2.1 70 5).toInt := (hv94.2.1 70 5).1
      have g192 : (h94.2.1 70 5).toInt ≤ 2147483647 := (hv94.2.1 70 5).2
      have g193 : (h94.2.1 70 5).toInt = u102.toInt := by rw [← (show u102 = h94.2.1 70 5 from u102w)] <;> exact (ti_rfl u102)
      refine go_invV (pc := 121) (sl := 0) (s_X8_fails_f l (d + 598) hv94 5 (by rw [show (5 : Int32).toInt = 5 from (ti_c (v := 5) (a := 5) (by decide))]; omega) (by rw [show (5 : Int32).toInt = 5 from (ti_c (v := 5) (a := 5) (by decide))]; omega)) mL_X8_180 iM_X8_fails sM_X8_fails (hv94.sh rfl) rfl rfl rfl (Nat.le_of_ble_eq_true rfl) (show d + 598 + 1 + 1 ≤ d + 600 by omega) (show 8 + (2 + 11) + 40 * (d + 598 + 1) ≤ 40 * (d + 600) by omega) (g_c0 hv94.ln) (Nat.le_of_ble_eq_true rfl) dX8_program_121 ?_
      intro r h194 hq _
      obtain ⟨rfl, hv194, f195, f196, f197, f198⟩ := hq
      try rw [show (5 : Int32).toInt = 5 from (ti_c (v := 5) (a := 5) (by decide))] at f195
      try rw [show (5 : Int32).toInt = 5 from (ti_c (v := 5) (a := 5) (by decide))] at f196
      try rw [show (5 : Int32).toInt = 5 from (ti_c (v := 5) (a := 5) (by decide))] at f197
      try rw [show (5 : Int32).toInt = 5 from (ti_c (v := 5) (a := 5) (by decide))] at f198
      have fx194 : FX KRt h h194 := FX.tr fx94 f198
      have ve194 : VE h94.2.1 h194.2.1 := VE.of hv94 hv194
      have oh194 : OH h.2.1 h194.2.1 S := oh94.trans (OH.of hv94 hv194 S)
      have ck194 : CKF h.2.1 → CKF h194.2.1 := fun z => CKF.ve ve194 (ck94 z)
      have n73_194 : V h194.2.1 73 S = V h94.2.1 73 S := ve194.v (by omega) (by omega)
      have n74_194 : V h194.2.1 74 S = V h94.2.1 74 S := ve194.v (by omega) (by omega)
      have n75_194 : V h194.2.1 75 S = V h94.2.1 75 S := ve194.v (by omega) (by omega)
      obtain ⟨u199, u199w⟩ : ∃ v : Int32, v = h194.2.1 70 5 := ⟨_, rfl⟩
      have u199e : (h194.2.1 70 5).toInt = u199.toInt := by rw [u199w]
      have u199l : -2147483648 ≤ u199.toInt := by rw [u199w]; exact (hv194.2.1 70 5).1
      have u199u : u199.toInt ≤ 2147483647 := by rw [u199w]; exact (hv194.2.1 70 5).2
      refine go_aload_n (pc := 124) rfl dX8_program_124 ?_
      refine go_invV (pc := 125) (sl := 0) (s_X8_isGood_f l (d + 598) hv194 ) mL_X8_172 iM_X8_isGood sM_X8_isGood (hv194.sh rfl) rfl rfl rfl (Nat.le_of_ble_eq_true rfl) (show d + 598 + 1 + 1 ≤ d + 600 by omega) (show 8 + (1 + 11) + 40 * (d + 598 + 1) ≤ 40 * (d + 600) by omega) (g_c0 hv194.ln) (Nat.le_of_ble_eq_true rfl) dX8_program_125 ?_
      intro r h200 hq _
      obtain ⟨v204, rfl, v204l, v204u, rfl, f201, f202, f203⟩ := hq
      refine gf_if_eq (pc := 128) (tgt := 205) (ti_rfl v204) (by decide) dX8_program_128 (fun q205 => ?_) (fun q205 => ?_)
      ·
        refine go_aload_n (pc := 205) rfl dX8_program_205 ?_
        refine go_invV (pc := 206) (sl := 0) (s_X8_isGood_f l (d + 598) hv194 ) mL_X8_172 iM_X8_isGood sM_X8_isGood (hv194.sh rfl) rfl rfl rfl (Nat.le_of_ble_eq_true rfl) (show d + 598 + 1 + 1 ≤ d + 600 by omega) (show 8 + (1 + 11) + 40 * (d + 598 + 1) ≤ 40 * (d + 600) by omega) (g_c0 hv194.ln) (Nat.le_of_ble_eq_true rfl) dX8_program_206 ?_
        intro r h206 hq _
        obtain ⟨v210, rfl, v210l, v210u, rfl, f207, f208, f209⟩ := hq
        refine gf_if_ne (pc := 209) (tgt := 215) (ti_rfl v210) (by decide) dX8_program_209 (fun q211 => ?_) (fun q211 => ?_)
        ·
          exact False.elim (by omega)
        ·
          refine go_bipush (pc := 212) (v := (-2)) (by decide) dX8_program_212 ?_
          have g212 : (-2147483648 : Int) ≤ (h194.2.1 70 5).toInt := (hv194.2.1 70 5).1
          have g213 : (h194.2.1 70 5).toInt ≤ 2147483647 := (hv194.2.1 70 5).2
          have g214 : (h194.2.1 70 5).toInt = u199.toInt := by rw [← (show u199 = h194.2.1 70 5 from u199w)] <;> exact (ti_rfl u199)
          have pp215 : (CKF h194.2.1) := (ck194 ckf)
          have pp216 : LV h194.2.1 := (LV.oh hv oh194 S0 hls hlv)
          have pp217 : FX KR h h194 := (FX.mono (fun c j z => by unfold KR at z; unfold KRt; omega) fx194)
          have pp218 : PgB h h194 ((-2) : Int32).toInt S := ⟨_, pgt, PgQ.told hv94 f98 (by omega) (f97 (by omega)).1 (ck94 ckf) (by rw [← f134]; omega) f197 (by decide)⟩
          have pp219 : ((-2) : Int32).toInt = -2 → OHx h.2.1 h194.2.1 S := (fun _ => ⟨oh194.1, oh194.2.2.1, oh194.2.2.2⟩)
          have pp220 : 0 ≤ ((-2) : Int32).toInt → ∃ s1 : ST, st h194 = f_X8_laysAll2 s1 ∧ s1.1 70 6 = (h194.2.1 70 29).toInt := (fun z => absurd z (by decide))
          have pp221 : ((-2) : Int32).toInt = -2 → FX KRt h h194 := (fun _ => fx194)
          subst hS
          exact gi_iret (pc := 214) (ti_c (v := (-2)) (a := (-2)) (by decide)) ⟨_, rfl, (ti_lo _), (ti_hi _), ⟨_, hv194, (MW.trans (MW.trans (MW.trans (MW.trans (MW.mz _ _) (MW.mz _ _)) (MW.mz _ _)) (MW.mz _ _)) sq96)⟩, pp215, pp216, pp217, pp218, pp219, pp220, pp221⟩ hv194 dX8_program_214
      ·
        refine go_aload_n (pc := 131) rfl dX8_program_131 ?_
        exact False.elim (by omega)
set_option maxHeartbeats 4000000 in
set_option maxRecDepth 100000 in
theorem s_X8_program_f (l : Launch) (d : Nat) {P : PP} {h : HP} (hv : Iv P h) (ckf : CKF h.2.1) (hlv : LV h.2.1) : Mt l yX8_program cX8_program 2 (some .int) (d + 600) [.ref 70] h 0 0 (fun r h' => ∃ v : Int32, r = some (.int v) ∧ -2147483648 ≤ v.toInt ∧ v.toInt ≤ 2147483647 ∧ (∃ Q : PP, Iv Q h' ∧ PG P Q) ∧ ((CKF h'.2.1)) ∧ (LV h'.2.1) ∧ (FX KR h h') ∧ (∃ t, PgS h t (1 - (h.2.1 70 29).toInt) ∧ PgQ t h' (1 - (h.2.1 70 29).toInt) v.toInt) ∧ (v.toInt = -2 → OHx h.2.1 h'.2.1 (1 - (h.2.1 70 29).toInt)) ∧ (0 ≤ v.toInt → ∃ s1 : ST, st h' = f_X8_laysAll2 s1 ∧ s1.1 70 6 = (h'.2.1 70 29).toInt) ∧ (v.toInt = -2 → FX KRt h h')) := by
  refine Mt_iv hv (by decide) (Nat.le_of_ble_eq_true rfl) ?_
  show Go l RX8 cX8_program 2 (g_rm (d + 600) 0 0) "program" (some .int) 117 0 0 (fun _ _ => True) (fun r h' => ∃ v : Int32, r = some (.int v) ∧ -2147483648 ≤ v.toInt ∧ v.toInt ≤ 2147483647 ∧ (∃ Q : PP, Iv Q h' ∧ PG P Q) ∧ ((CKF h'.2.1)) ∧ (LV h'.2.1) ∧ (FX KR h h') ∧ (∃ t, PgS h t (1 - (h.2.1 70 29).toInt) ∧ PgQ t h' (1 - (h.2.1 70 29).toInt) v.toInt) ∧ (v.toInt = -2 → OHx h.2.1 h'.2.1 (1 - (h.2.1 70 29).toInt)) ∧ (0 ≤ v.toInt → ∃ s1 : ST, st h' = f_X8_laysAll2 s1 ∧ s1.1 70 6 = (h'.2.1 70 29).toInt) ∧ (v.toInt = -2 → FX KRt h h')) 0 0 [(0, .ref 70)] [] h
  have fx : FX KRt h h := FX.rfl
  have key : ∀ n : Nat, (∀ (l1 : Int32) (hx : HP), Iv P hx → 0 ≤ l1.toInt → l1.toInt ≤ 500 → (hx.2.1 70 3 = h.2.1 70 2) → (∀ j : Nat, (j : Int) < l1.toInt → hx.2.1 72 j = h.2.1 71 j) → (-2147483648 : Int) ≤ (hx.2.1 70 5).toInt → (hx.2.1 70 5).toInt ≤ 2147483647 → FX KRt h hx → (600 - l1.toInt : Int) < n → Go l RX8 cX8_program 2 (g_rm (d + 600) 0 0) "program" (some .int) 117 0 0 (fun _ _ => True) (fun r h' => ∃ v : Int32, r = some (.int v) ∧ -2147483648 ≤ v.toInt ∧ v.toInt ≤ 2147483647 ∧ (∃ Q : PP, Iv Q h' ∧ PG P Q) ∧ ((CKF h'.2.1)) ∧ (LV h'.2.1) ∧ (FX KR h h') ∧ (∃ t, PgS h t (1 - (h.2.1 70 29).toInt) ∧ PgQ t h' (1 - (h.2.1 70 29).toInt) v.toInt) ∧ (v.toInt = -2 → OHx h.2.1 h'.2.1 (1 - (h.2.1 70 29).toInt)) ∧ (0 ≤ v.toInt → ∃ s1 : ST, st h' = f_X8_laysAll2 s1 ∧ s1.1 70 6 = (h'.2.1 70 29).toInt) ∧ (v.toInt = -2 → FX KRt h h')) 0 10 [(0, .ref 70), (1, .int l1)] [] hx) := by
    intro n
    induction n with
    | zero => exact (by intros; omega)
    | succ n ih =>
      refine ?_
      ·
        intro l1 hx hvx l1l l1u x0 x1 y0l y0u fxx hm
        refine go_iload_n (pc := 10) rfl dX8_program_10 ?_
        refine go_aload_n (pc := 11) rfl dX8_program_11 ?_
        refine gi_get (pc := 12) (lo := 0) (hi := 500) hvx fL_X8_166 rfl (Nat.le_of_ble_eq_true rfl) rfl rfl dX8_program_12 (fun v1 v1l v1u v1w => ?_)
        refine gf_icmp_ge (pc := 15) (tgt := 36) (ti_rfl l1) (ti_rfl v1) (by decide) dX8_program_15 (fun q2 => ?_) (fun q2 => ?_)
        ·
          refine go_aload_n (pc := 36) rfl dX8_program_36 ?_
          refine go_iconst (pc := 37) (v := 0) (by decide) dX8_program_37 ?_
          refine gi_put1 (pc := 38) hvx (ti_c (v := 0) (a := 0) (by decide)) (fP_X8_151 _) (by omega) (by omega) dX8_program_38 (fun h3 hv3 hv3e => ?_)
          have z4 : (0 : Int32).toInt = 0 := (ti_c (v := 0) (a := 0) (by decide))
          have fx3 : FX KRt h h3 := FX.pI fxx hv3e (by unfold KRt; omega)
          refine go_aload_n (pc := 41) rfl dX8_program_41 ?_
          refine go_iconst (pc := 42) (v := 0) (by decide) dX8_program_42 ?_
          refine gi_put (pc := 43) (lo := 0) (hi := 500) hv3 (ti_c (v := 0) (a := 0) (by decide)) (fP_X8_163 _) rfl (Nat.le_of_ble_eq_true rfl) rfl rfl (by omega) (by omega) rfl rfl (by decide) (by decide) (by decide) (by decide) dX8_program_43 (fun h5 hv5 hv5e => ?_)
          have fx5 : FX KRt h h5 := FX.pI fx3 hv5e (by unfold KRt; omega)
          refine go_aload_n (pc := 46) rfl dX8_program_46 ?_
          refine go_iconst (pc := 47) (v := 0) (by decide) dX8_program_47 ?_
          refine gi_put (pc := 48) (lo := -2147483648) (hi := 2147483647) hv5 (ti_c (v := 0) (a := 0) (by decide)) (fP_X8_169 _) rfl (Nat.le_of_ble_eq_true rfl) rfl rfl (ti_ge (ti_c (v := 0) (a := 0) (by decide))) (ti_le2 (ti_c (v := 0) (a := 0) (by decide))) rfl rfl (by decide) (by decide) (by decide) (by decide) dX8_program_48 (fun h6 hv6 hv6e => ?_)
          have fx6 : FX KRt h h6 := FX.pI fx5 hv6e (by unfold KRt; omega)
          refine go_aload_n (pc := 51) rfl dX8_program_51 ?_
          refine go_iconst (pc := 52) (v := 1) (by decide) dX8_program_52 ?_
          refine go_aload_n (pc := 53) rfl dX8_program_53 ?_
          refine gi_get (pc := 54) (lo := 0) (hi := 1) hv6 fL_X8_228 rfl (Nat.le_of_ble_eq_true rfl) rfl rfl dX8_program_54 (fun v7 v7l v7u v7w => ?_)
          refine gf_isub (pc := 57) (ti_c (v := 1) (a := 1) (by decide)) (ti_rfl v7) (by omega) (by omega) dX8_program_57 (fun v8 e9 => ?_)
          refine gi_putG (pc := 58) (j := 6) hv6 e9 (fP_X8_187 _) (Nat.le_of_ble_eq_true rfl) rfl rfl rfl (by omega) (by omega) (by decide) dX8_program_58 (fun h10 hv10 hv10e => ?_)
          have fx10 : FX KRt h h10 := FX.pI fx6 hv10e (by unfold KRt; omega)
          have ve61 : VE h.2.1 h10.2.1 := VE.trans (VE.of hv hvx) (fun c j a b => by rw [hv10e, hv6e, hv5e, hv3e]; show (if c = 70 ∧ j = 6 then _ else if c = 70 ∧ j = 5 then _ else if c = 70 ∧ j = 4 then _ else if c = 70 ∧ j = 2 then _ else hx.2.1 c j) = _; rw [if_neg (by omega), if_neg (by omega), if_neg (by omega), if_neg (by omega)])
          have e29 : h10.2.1 70 29 = h.2.1 70 29 := by rw [hv10e, hv6e, hv5e, hv3e]; show hx.2.1 70 29 = _; rw [hvx.fy (j := 29) (by omega), ← hv.fy (j := 29) (by omega)]
          have e30 : h10.2.1 70 30 = h.2.1 70 30 := by rw [hv10e, hv6e, hv5e, hv3e]; show hx.2.1 70 30 = _; rw [hvx.fy (j := 30) (by omega), ← hv.fy (j := 30) (by omega)]
          have a6 : h10.2.1 70 6 = v8 := by rw [hv10e]; rfl
          have a29 : h10.2.1 70 29 = v7 := by rw [hv10e]; exact v7w.symm
          have zq : v8.toInt = (1 - v7.toInt) := e9
          have f0 : (h10.2.1 70 5).toInt = 0 := by rw [hv10e, hv6e]; show (0 : Int32).toInt = 0; decide
          have a3 : h10.2.1 70 3 = h.2.1 70 2 := by rw [hv10e, hv6e, hv5e, hv3e]; exact x0
          have a4 : (h10.2.1 70 4).toInt = 0 := by rw [hv10e, hv6e, hv5e, hv3e]; show (0 : Int32).toInt = 0; decide
          have a72 : ∀ j : Nat, h10.2.1 72 j = hx.2.1 72 j := fun j => by rw [hv10e, hv6e, hv5e, hv3e]; rfl
          have sz : v1.toInt = (h.2.1 70 2).toInt := by rw [v1w, x0]
          have aS : (h10.2.1 70 6).toInt = 1 - (h.2.1 70 29).toInt := by rw [a6, zq, ← a29, e29]
          refine go_lv (lv2 := [(0, .ref 70)]) rfl (go_post ?_ (s_X8_program_b_f l d hv10 (CKF.ve ve61 ckf) (LV.cong ve61 e29 e30 hlv) f0 (by rw [a6, a29, zq]; omega)))
          intro r h' q
          obtain ⟨v, a, b, c, ⟨Q, e1, e2⟩, f1, f2, f3, f4, f5, f6, f7⟩ := q
          rw [aS] at f4 f5
          obtain ⟨t, ⟨p1, p73, p74, p75, p76⟩, p2⟩ := f4
          have ps : PgS h t (1 - (h.2.1 70 29).toInt) := ⟨by rw [p1 70 6 (by omega)]; exact aS, by rw [p1 70 3 (by omega), a3], by rw [p1 70 4 (by omega)]; exact a4, by rw [p1 70 5 (by omega)]; exact f0, fun j y => by rw [p1 72 j (by omega), a72, x1 j (by omega)], p73, p74, p75, p76⟩
          exact ⟨v, a, b, c, ⟨Q, e1, e2.1, by rw [e2.2.1]; show (0 : Int32).toInt = 0; decide, e2.2.2.1, e2.2.2.2⟩, f1, f2, FX.tr (FX.mono (fun c j z => by unfold KR at z; unfold KRt; omega) fx10) f3, ⟨t, ps, p2⟩, fun z => ⟨fun c j c1 c2 n => ((f5 z).1 c j c1 c2 n).trans (ve61 c j c1 c2), (f5 z).2.1.trans e29, (f5 z).2.2.trans e30⟩, f6, fun z => FX.tr fx10 (f7 z)⟩
        ·
          refine go_aload_n (pc := 18) rfl dX8_program_18 ?_
          refine gi_getF (pc := 19) (q := 72) hvx fL_X8_13 rfl (Nat.le_of_ble_eq_true rfl) rfl (hvx.rf (by decide)) dX8_program_19 ?_
          refine go_iload_n (pc := 22) rfl dX8_program_22 ?_
          refine go_aload_n (pc := 23) rfl dX8_program_23 ?_
          refine gi_getF (pc := 24) (q := 71) hvx fL_X8_7 rfl (Nat.le_of_ble_eq_true rfl) rfl (hvx.rf (by decide)) dX8_program_24 ?_
          refine go_iload_n (pc := 27) rfl dX8_program_27 ?_
          refine gi_bald (pc := 28) (lo := -128) (hi := 127) (len := 500) hvx (ti_rfl l1) rfl (by omega) (by omega) (fun _ => rfl) dX8_program_28 (fun v11 v11l v11u v11w => ?_)
          refine gi_bast (pc := 29) (len := 500) hvx (ti_rfl l1) rfl (by omega) (by omega) (fun _ => rfl) (by decide) dX8_program_29 (fun h12 hv12 hv12e => ?_)
          have fx12 : FX KRt h h12 := FX.pI fxx hv12e (by unfold KRt; omega)
          refine gf_iinc (pc := 30) (Nat.le_of_ble_eq_true rfl) rfl (ti_rfl l1) (ti_c (by decide)) (by omega) (by omega) dX8_program_30 (fun v13 e14 => ?_)
          refine go_lv (lv2 := [(0, .ref 70), (1, .int v13)]) rfl ?_
          refine go_goto (pc := 33) (tgt := 10) (by decide) dX8_program_33 ?_
          have z15 : (v13 : Int32).toInt = (l1.toInt + 1) := e14
          have g16 : (-2147483648 : Int) ≤ (h12.2.1 70 5).toInt := (hv12.2.1 70 5).1
          have g17 : (h12.2.1 70 5).toInt ≤ 2147483647 := (hv12.2.1 70 5).2
          exact go_lv rfl (ih v13 h12 hv12 (by omega) (by omega) (by rw [hv12e]; exact x0) (fun j q => by rw [show (v13 : Int32).toInt = l1.toInt + 1 from e14] at q; rw [hv12e]; show (if 72 = 72 ∧ j = (l1.toInt).toNat then vp_nar .byte v11 else hx.2.1 72 j) = _; by_cases y : j = (l1.toInt).toNat; (rw [if_pos ⟨_root_.rfl, y⟩, nar_id (x := v11) (by omega) (by omega), v11w, y]; exact (fxx 71 _ (by unfold KRt; omega)).1); (rw [if_neg (fun z => y z.2)]; exact x1 j (by omega))) (by omega) (by omega) fx12 (by omega))
  obtain ⟨u70_5, u70_5w⟩ : ∃ v : Int32, v = h.2.1 70 5 := ⟨_, rfl⟩
  have u70_5e : (h.2.1 70 5).toInt = u70_5.toInt := by rw [u70_5w]
  have u70_5l : -2147483648 ≤ u70_5.toInt := by rw [u70_5w]; exact (hv.2.1 70 5).1
  have u70_5u : u70_5.toInt ≤ 2147483647 := by rw [u70_5w]; exact (hv.2.1 70 5).2
  refine go_aload_n (pc := 0) rfl dX8_program_0 ?_
  refine go_aload_n (pc := 1) rfl dX8_program_1 ?_
  refine gi_get (pc := 2) (lo := 0) (hi := 500) hv fL_X8_151 rfl (Nat.le_of_ble_eq_true rfl) rfl rfl dX8_program_2 (fun v18 v18l v18u v18w => ?_)
  have v18p : v18.toInt = P.2.1.toInt := by rw [v18w]; exact congrArg Int32.toInt hv.t1
  refine gi_put (pc := 5) (lo := 0) (hi := 500) hv (ti_rfl v18) (fP_X8_166 _) rfl (Nat.le_of_ble_eq_true rfl) rfl rfl (by omega) (by omega) rfl rfl (by decide) (by decide) (by decide) (by decide) dX8_program_5 (fun h19 hv19 hv19e => ?_)
  have fx19 : FX KRt h h19 := FX.pI fx hv19e (by unfold KRt; omega)
  refine go_iconst (pc := 8) (v := 0) (by decide) dX8_program_8 ?_
  refine go_istore_n (pc := 9) (Nat.le_of_ble_eq_true rfl) dX8_program_9 (go_lv (lv2 := [(0, .ref 70), (1, .int 0)]) rfl ?_)
  have z20 : (0 : Int32).toInt = 0 := (ti_c (v := 0) (a := 0) (by decide))
  have g21 : (-2147483648 : Int) ≤ (h19.2.1 70 5).toInt := (hv19.2.1 70 5).1
  have g22 : (h19.2.1 70 5).toInt ≤ 2147483647 := (hv19.2.1 70 5).2
  have g23 : (h19.2.1 70 5).toInt = u70_5.toInt := by rw [← (show u70_5 = h19.2.1 70 5 from (show u70_5 = h19.2.1 70 5 from by rw [hv19e]; exact (g_iI rfl u70_5w.symm).symm))] <;> exact (ti_rfl u70_5)
  exact go_lv rfl ((key 2001) 0 h19 hv19 (by omega) (by omega) (by rw [hv19e]; show v18 = _; exact v18w) (fun j q => absurd q (by have e0 : (0 : Int32).toInt = 0 := (by decide); omega)) (by omega) (by omega) fx19 (by omega))

