/-- flags lie within R and T -/
def FLW (F : FN) (S : Int) (R T : Int → Prop) : Prop := ∀ q, 0 ≤ q → q < 5 → (V F 101 (5 * S + q) = 1 → R q) ∧ (V F 102 (5 * S + q) = 1 → T q)
/-- flags are the least: they lie within all that holds what follows of them -/
def LSP (F G : FN) (S : Int) : Prop := ∀ R T : Int → Prop, (∀ H, KX 100 F H → FLW H S R T → ∀ p, 0 ≤ p → p < V F 76 S → (CT H S p 0 → R p) ∧ (CT H S p 1 → T p)) → FLW G S R T
/-- nothing more follows, of procedures before n -/
def FXP (G : FN) (S n : Int) : Prop := ∀ p, 0 ≤ p → p < n → (CT G S p 0 → V G 101 (5 * S + p) = 1) ∧ (CT G S p 1 → V G 102 (5 * S + p) = 1)
theorem LSP.zero {F G : FN} {S p : Int} (hp : 5 ≤ p) (h : ∀ k : Int, 0 ≤ k → k < p → V G 101 (5 * S + k) = 0 ∧ V G 102 (5 * S + k) = 0) : LSP F G S := by
  intro R T _ q q0 q1
  have z := h q q0 (by omega)
  exact ⟨fun y => by omega, fun y => by omega⟩
theorem LSP.step {F0 F G : FN} {S p : Int} {r q : Int32} (hS : 0 ≤ S) (h0 : 0 ≤ p) (h1 : p < V F0 76 S) (kx : KX 100 F0 F) (ls : LSP F0 F S) (hG : G = w1 (w1 F 101 (5 * S + p) r) 102 (5 * S + p) q) (hr : r.toInt = 1 → CT F S p 0) (hq : q.toInt = 1 → CT F S p 1) : LSP F0 G S := by
  intro R T c
  have fl := ls R T c
  have st := c F kx fl p h0 h1
  intro k k0 k1
  rw [hG, V_w1, V_w1, V_w1, V_w1, if_neg (show ¬ (101 = 102 ∧ (5 * S + k).toNat = (5 * S + p).toNat) by omega), if_neg (show ¬ (102 = 101 ∧ (5 * S + k).toNat = (5 * S + p).toNat) by omega)]
  by_cases z : k = p
  · rw [z, if_pos ⟨rfl, rfl⟩, if_pos ⟨rfl, rfl⟩]
    exact ⟨fun y => st.1 (hr y), fun y => st.2 (hq y)⟩
  · rw [if_neg (by omega), if_neg (by omega)]
    exact fl k k0 k1
theorem FXP.step {F G : FN} {S p : Int} {r q : Int32} (hG : G = w1 (w1 F 101 (5 * S + p) r) 102 (5 * S + p) q) (hr : r.toInt = 0 → ¬ CT F S p 0) (hq : q.toInt = 0 → ¬ CT F S p 1) (br : r.toInt = 0 ∨ r.toInt = 1) (bq : q.toInt = 0 ∨ q.toInt = 1) (er : r.toInt = V F 101 (5 * S + p)) (eq : q.toInt = V F 102 (5 * S + p)) (f : FXP F S p) : FXP G S (p + 1) := by
  have e : G = F := by
    rw [hG]
    funext c j
    show (if c = 102 ∧ j = (5 * S + p).toNat then q else if c = 101 ∧ j = (5 * S + p).toNat then r else F c j) = F c j
    by_cases z : c = 102 ∧ j = (5 * S + p).toNat
    · rw [if_pos z, z.1, z.2]
      exact Int32.toInt_inj.mp eq
    · rw [if_neg z]
      by_cases y : c = 101 ∧ j = (5 * S + p).toNat
      · rw [if_pos y, y.1, y.2]
        exact Int32.toInt_inj.mp er
      · rw [if_neg y]
  rw [e]
  intro k k0 k1
  by_cases z : k = p
  · rw [z]
    refine ⟨fun y => ?_, fun y => ?_⟩
    · rcases br with w | w
      · exact absurd y (hr w)
      · omega
    · rcases bq with w | w
      · exact absurd y (hq w)
      · omega
  · exact f k k0 (by omega)
theorem FXP.le {G : FN} {S m n : Int} (h : FXP G S n) (le : m ≤ n) : FXP G S m := fun p p0 p1 => h p p0 (by omega)
/-- what laysMay leaves as it was -/
def KRM (c j : Nat) : Prop := c ≤ 69 ∨ (c = 70 ∧ j ≤ 6) ∨ c = 71 ∨ (103 ≤ c ∧ c ≤ 111)

def f_X8_laysWays_ : Nat → Nat → Int → Int → Int → Int → ST → ST
  | 0, _, _, _, _, _, sx => sx
  | n + 1, lab, l1, l2, l3, l4, sx => if lab = 2 then (bd (sx.1 70 6) fun v1 => bd (sx.1 75 (v1).toNat) fun v3 => if v3 ≤ l1 then (f_X8_laysWays_ n 174 0 0 0 0 sx) else (bd (sx.1 93 (((40 * v1) + l1)).toNat) fun v14 => bd (f_X8_tryOf sx v14) fun v20 => bd (f_X8_behind sx v14) fun v26 => bd (sI sx 95 (((40 * v1) + l1)).toNat v26) fun s28 => bd (s28.1 85 (v14).toNat) fun v30 => if ¬ v30 = (-1) then (bd (s28.1 85 (v14).toNat) fun v34 => bd (f_X8_firstOf s28 v34) fun v42 => bd (sI s28 96 (((40 * v1) + l1)).toNat v42) fun s44 => f_X8_laysWays_ n 81 l1 (((40 * v1) + l1)) v14 v20 s44) else (bd (sI s28 96 (((40 * v1) + l1)).toNat (-2)) fun s50 => f_X8_laysWays_ n 81 l1 (((40 * v1) + l1)) v14 v20 s50))) else if lab = 81 then (bd (sx.1 86 (l3).toNat) fun v53 => if ¬ v53 = (-1) then (bd (sx.1 86 (l3).toNat) fun v57 => bd (f_X8_firstOf sx v57) fun v65 => bd (sI sx 97 (l2).toNat v65) fun s67 => f_X8_laysWays_ n 116 l1 l2 0 l4 s67) else (bd (sx.1 95 (l2).toNat) fun v70 => bd (sI sx 97 (l2).toNat v70) fun s72 => f_X8_laysWays_ n 116 l1 l2 0 l4 s72)) else if lab = 116 then (if ¬ l4 = (-1) then (bd (sx.1 86 (l4).toNat) fun v76 => bd (f_X8_firstOf sx v76) fun v84 => bd (sI sx 98 (l2).toNat v84) fun s86 => bd (s86.1 82 (l4).toNat) fun v89 => bd (sI s86 99 (l2).toNat v89) fun s93 => f_X8_laysWays_ n 2 ((l1 + 1)) 0 0 0 s93) else (bd (sI sx 98 (l2).toNat (-1)) fun s99 => bd (sI s99 99 (l2).toNat (-1)) fun s102 => f_X8_laysWays_ n 2 ((l1 + 1)) 0 0 0 s102)) else bd (sx.1 70 6) fun v107 => bd (sx.1 76 (v107).toNat) fun v109 => if v109 ≤ l1 then (sx) else (bd (sx.1 94 (((5 * v107) + l1)).toNat) fun v128 => bd (f_X8_firstOf sx v128) fun v136 => bd (sI sx 100 (((5 * v107) + l1)).toNat v136) fun s138 => f_X8_laysWays_ n 174 ((l1 + 1)) 0 0 0 s138)
def f_X8_laysWays (s : ST) : ST :=
  f_X8_laysWays_ 244 2 0 0 0 0 s
set_option maxHeartbeats 4000000 in
set_option maxRecDepth 100000 in
theorem s_X8_laysWays_f (l : Launch) (d : Nat) {P : PP} {h : HP} (hv : Iv P h) (hr : RD h.2.1 (h.2.1 70 6).toInt) : Mt l yX8_laysWays cX8_laysWays 5 none (d + 541) [.ref 70] h 0 0 (fun r h' => r = none ∧ (∃ Q : PP, Iv Q h' ∧ MW P Q) ∧ (KX 94 h.2.1 h'.2.1) ∧ (WJ h.2.1 h'.2.1 (h.2.1 70 6).toInt (V h.2.1 75 (h.2.1 70 6).toInt)) ∧ (st h' = f_X8_laysWays (st h)) ∧ (FX KRM h h') ∧ (OH h.2.1 h'.2.1 (h.2.1 70 6).toInt) ∧ (CKF h.2.1 → CKF h'.2.1)) := by
  refine Mt_iv hv (by decide) (Nat.le_of_ble_eq_true rfl) ?_
  show Go l RX8 cX8_laysWays 5 (g_rm (d + 541) 0 0) "laysWays" none 117 0 0 (fun _ _ => True) (fun r h' => r = none ∧ (∃ Q : PP, Iv Q h' ∧ MW P Q) ∧ (KX 94 h.2.1 h'.2.1) ∧ (WJ h.2.1 h'.2.1 (h.2.1 70 6).toInt (V h.2.1 75 (h.2.1 70 6).toInt)) ∧ (st h' = f_X8_laysWays (st h)) ∧ (FX KRM h h') ∧ (OH h.2.1 h'.2.1 (h.2.1 70 6).toInt) ∧ (CKF h.2.1 → CKF h'.2.1)) 0 0 [(0, .ref 70)] [] h
  obtain ⟨S, hS⟩ : ∃ S : Int, S = (h.2.1 70 6).toInt := ⟨_, rfl⟩
  have S0 : 0 ≤ S := by rw [hS]; exact (hv.2.1 70 6).1
  have S1 : S ≤ 1 := by rw [hS]; exact (hv.2.1 70 6).2
  have oh : OH h.2.1 h.2.1 S := OH.rfl _ _
  have ck : CKF h.2.1 → CKF h.2.1 := id
  rw [← hS] at hr
  have fx : FX KRM h h := FX.rfl
  obtain ⟨fin, kf⟩ : ∃ z, z = f_X8_laysWays (st h) := ⟨_, _root_.rfl⟩
  have k0 := kf
  unfold f_X8_laysWays at k0
  have key : ∀ n : Nat, (∀ (l1 : Int32) (Qx : PP) (hx : HP), Iv Qx hx → MW P Qx → 0 ≤ l1.toInt → l1.toInt ≤ 40 → (KX 94 h.2.1 hx.2.1) → (WJ h.2.1 hx.2.1 S l1.toInt) → OH h.2.1 hx.2.1 S → (CKF h.2.1 → CKF hx.2.1) → FX KRM h hx → fin = f_X8_laysWays_ n 2 l1.toInt 0 0 0 (st hx) → (5 * (40 - l1.toInt) + 25 : Int) < n → Go l RX8 cX8_laysWays 5 (g_rm (d + 541) 0 0) "laysWays" none 117 0 0 (fun _ _ => True) (fun r h' => r = none ∧ (∃ Q : PP, Iv Q h' ∧ MW P Q) ∧ (KX 94 h.2.1 h'.2.1) ∧ (WJ h.2.1 h'.2.1 (h.2.1 70 6).toInt (V h.2.1 75 (h.2.1 70 6).toInt)) ∧ (st h' = f_X8_laysWays (st h)) ∧ (FX KRM h h') ∧ (OH h.2.1 h'.2.1 (h.2.1 70 6).toInt) ∧ (CKF h.2.1 → CKF h'.2.1)) 0 2 [(0, .ref 70), (1, .int l1)] [] hx) ∧ (∀ (l1 : Int32) (l2 : Int32) (l3 : Int32) (l4 : Int32) (Qx : PP) (hx : HP), Iv Qx hx → MW P Qx → 0 ≤ l1.toInt → l1.toInt ≤ 39 → 0 ≤ l2.toInt → l2.toInt ≤ 127 → 0 ≤ l3.toInt → l3.toInt ≤ 259 → -1 ≤ l4.toInt → l4.toInt ≤ 259 → (KX 94 h.2.1 hx.2.1) → (l2.toInt = 40 * S + l1.toInt) → (II h.2.1 S l3.toInt) → ((l4.toInt = -1 ∨ (II h.2.1 S l4.toInt ∧ V h.2.1 77 l4.toInt = 6))) → (WJ h.2.1 hx.2.1 S (l1.toInt + 1)) → OH h.2.1 hx.2.1 S → (CKF h.2.1 → CKF hx.2.1) → FX KRM h hx → fin = f_X8_laysWays_ n 81 l1.toInt l2.toInt l3.toInt l4.toInt (st hx) → (5 * (40 - l1.toInt) + 24 : Int) < n → Go l RX8 cX8_laysWays 5 (g_rm (d + 541) 0 0) "laysWays" none 117 0 0 (fun _ _ => True) (fun r h' => r = none ∧ (∃ Q : PP, Iv Q h' ∧ MW P Q) ∧ (KX 94 h.2.1 h'.2.1) ∧ (WJ h.2.1 h'.2.1 (h.2.1 70 6).toInt (V h.2.1 75 (h.2.1 70 6).toInt)) ∧ (st h' = f_X8_laysWays (st h)) ∧ (FX KRM h h') ∧ (OH h.2.1 h'.2.1 (h.2.1 70 6).toInt) ∧ (CKF h.2.1 → CKF h'.2.1)) 0 81 [(0, .ref 70), (1, .int l1), (2, .int l2), (3, .int l3), (4, .int l4)] [] hx) ∧ (∀ (l1 : Int32) (l2 : Int32) (l4 : Int32) (Qx : PP) (hx : HP), Iv Qx hx → MW P Qx → 0 ≤ l1.toInt → l1.toInt ≤ 39 → 0 ≤ l2.toInt → l2.toInt ≤ 127 → -1 ≤ l4.toInt → l4.toInt ≤ 259 → (KX 94 h.2.1 hx.2.1) → (l2.toInt = 40 * S + l1.toInt) → ((l4.toInt = -1 ∨ (II h.2.1 S l4.toInt ∧ V h.2.1 77 l4.toInt = 6))) → (WJ h.2.1 hx.2.1 S (l1.toInt + 1)) → OH h.2.1 hx.2.1 S → (CKF h.2.1 → CKF hx.2.1) → FX KRM h hx → fin = f_X8_laysWays_ n 116 l1.toInt l2.toInt 0 l4.toInt (st hx) → (5 * (40 - l1.toInt) + 23 : Int) < n → Go l RX8 cX8_laysWays 5 (g_rm (d + 541) 0 0) "laysWays" none 117 0 0 (fun _ _ => True) (fun r h' => r = none ∧ (∃ Q : PP, Iv Q h' ∧ MW P Q) ∧ (KX 94 h.2.1 h'.2.1) ∧ (WJ h.2.1 h'.2.1 (h.2.1 70 6).toInt (V h.2.1 75 (h.2.1 70 6).toInt)) ∧ (st h' = f_X8_laysWays (st h)) ∧ (FX KRM h h') ∧ (OH h.2.1 h'.2.1 (h.2.1 70 6).toInt) ∧ (CKF h.2.1 → CKF h'.2.1)) 0 116 [(0, .ref 70), (1, .int l1), (2, .int l2), (4, .int l4)] [] hx) ∧ (∀ (l1 : Int32) (Qx : PP) (hx : HP), Iv Qx hx → MW P Qx → 0 ≤ l1.toInt → l1.toInt ≤ 5 → (KX 94 h.2.1 hx.2.1) → (WJ h.2.1 hx.2.1 S (V h.2.1 75 S)) → OH h.2.1 hx.2.1 S → (CKF h.2.1 → CKF hx.2.1) → FX KRM h hx → fin = f_X8_laysWays_ n 174 l1.toInt 0 0 0 (st hx) → (3 * (5 - l1.toInt) + 2 : Int) < n → Go l RX8 cX8_laysWays 5 (g_rm (d + 541) 0 0) "laysWays" none 117 0 0 (fun _ _ => True) (fun r h' => r = none ∧ (∃ Q : PP, Iv Q h' ∧ MW P Q) ∧ (KX 94 h.2.1 h'.2.1) ∧ (WJ h.2.1 h'.2.1 (h.2.1 70 6).toInt (V h.2.1 75 (h.2.1 70 6).toInt)) ∧ (st h' = f_X8_laysWays (st h)) ∧ (FX KRM h h') ∧ (OH h.2.1 h'.2.1 (h.2.1 70 6).toInt) ∧ (CKF h.2.1 → CKF h'.2.1)) 0 174 [(0, .ref 70), (1, .int l1)] [] hx) := by
    intro n
    induction n with
    | zero => exact ⟨(by intros; omega), (by intros; omega), (by intros; omega), (by intros; omega)⟩
    | succ n ih =>
      refine ⟨?_, ?_, ?_, ?_⟩
      ·
        intro l1 Qx hx hvx sqx l1l l1u x0 x1 ohx ckx fxx kL hm
        rw [f_X8_laysWays_] at kL
        replace kL := if_t kL _root_.rfl
        have xkx := x0
        have rdx : RD hx.2.1 S := RD.kx x0 (by omega) hr
        refine go_iload_n (pc := 2) rfl dX8_laysWays_2 ?_
        refine go_aload_n (pc := 3) rfl dX8_laysWays_3 ?_
        refine gi_getF (pc := 4) (q := 75) hvx fL_X8_23 rfl (Nat.le_of_ble_eq_true rfl) rfl (hvx.rf (by decide)) dX8_laysWays_4 ?_
        refine go_aload_n (pc := 7) rfl dX8_laysWays_7 ?_
        refine gi_get (pc := 8) (lo := 0) (hi := 1) hvx fL_X8_187 rfl (Nat.le_of_ble_eq_true rfl) rfl rfl dX8_laysWays_8 (fun v1 v1l v1u v1w => ?_)
        have k2 := bd_e kL (congrArg Int32.toInt v1w.symm)
        have v1S : v1.toInt = S := by rw [v1w]; exact (congrArg Int32.toInt ohx.side).trans hS.symm
        refine gi_iald (pc := 11) (lo := 0) (hi := 40) (len := 2) hvx (ti_rfl v1) rfl (by omega) (by omega) (fun _ => rfl) dX8_laysWays_11 (fun v3 v3l v3u v3w => ?_)
        have k4 := bd_e k2 (congrArg Int32.toInt v3w.symm)
        have v3V : v3.toInt = V hx.2.1 75 S := by rw [v3w, v1S]; rfl
        refine gf_icmp_ge (pc := 12) (tgt := 172) (ti_rfl l1) (ti_rfl v3) (by decide) dX8_laysWays_12 (fun q5 => ?_) (fun q5 => ?_)
        ·
          have k6 := if_t k4 q5
          refine go_iconst (pc := 172) (v := 0) (by decide) dX8_laysWays_172 ?_
          refine go_istore_n (pc := 173) (Nat.le_of_ble_eq_true rfl) dX8_laysWays_173 (go_lv (lv2 := [(0, .ref 70), (1, .int 0)]) rfl ?_)
          have z7 : (0 : Int32).toInt = 0 := (ti_c (v := 0) (a := 0) (by decide))
          exact go_lv rfl (ih.2.2.2 0 _ hx hvx sqx (by omega) (by omega) xkx (fun k a b => x1 k a (by have e := xkx.v (c := 75) (i := S) (by omega) (by omega); omega)) ohx ckx fxx (by rw [show (0 : Int32).toInt = 0 from (ti_c (v := 0) (a := 0) (by decide))]; exact k6) (by omega))
        ·
          have k8 := if_f k4 (Int.not_le.mpr q5)
          refine go_bipush (pc := 15) (v := 40) (by decide) dX8_laysWays_15 ?_
          refine go_aload_n (pc := 17) rfl dX8_laysWays_17 ?_
          refine gi_get (pc := 18) (lo := 0) (hi := 1) hvx fL_X8_187 rfl (Nat.le_of_ble_eq_true rfl) rfl rfl dX8_laysWays_18 (fun v9 v9l v9u v9w => ?_)
          have v9r : v1 = hx.2.1 70 6 := v1w
          have v9q : TI v9 v1.toInt := by rw [v9w.trans v9r.symm]; exact (ti_rfl v1)
          refine gf_imul (pc := 21) (ti_c (v := 40) (a := 40) (by decide)) v9q (by omega) (by omega) dX8_laysWays_21 (fun v10 e11 => ?_)
          refine go_iload_n (pc := 22) rfl dX8_laysWays_22 ?_
          refine gf_iadd (pc := 23) e11 (ti_rfl l1) (by omega) (by omega) dX8_laysWays_23 (fun v12 e13 => ?_)
          refine go_istore_n (pc := 24) (Nat.le_of_ble_eq_true rfl) dX8_laysWays_24 (go_lv (lv2 := [(0, .ref 70), (1, .int l1), (2, .int v12)]) rfl ?_)
          refine go_aload_n (pc := 25) rfl dX8_laysWays_25 ?_
          refine gi_getF (pc := 26) (q := 93) hvx fL_X8_77 rfl (Nat.le_of_ble_eq_true rfl) rfl (hvx.rf (by decide)) dX8_laysWays_26 ?_
          refine go_iload_n (pc := 29) rfl dX8_laysWays_29 ?_
          refine gi_iald (pc := 30) (lo := 0) (hi := 259) (len := 80) hvx e13 rfl (by omega) (by omega) (fun _ => rfl) dX8_laysWays_30 (fun v14 v14l v14u v14w => ?_)
          have k15 := bd_e k8 (congrArg Int32.toInt v14w.symm)
          have v14V : v14.toInt = V hx.2.1 93 (((40 * S) + l1.toInt)) := by rw [v14w, v1S]; rfl
          have ii : II h.2.1 S v14.toInt := (II.kx xkx (by omega)).mp (by rw [v14V]; exact rdx.1.2.2.2.2.2.2 l1.toInt (by omega) (by omega))
          have iE : v14.toInt = V h.2.1 93 (40 * S + l1.toInt) := by rw [v14V, xkx.v (c := 93) (by omega) (by omega)]
          refine go_istore_n (pc := 31) (Nat.le_of_ble_eq_true rfl) dX8_laysWays_31 (go_lv (lv2 := [(0, .ref 70), (1, .int l1), (2, .int v12), (3, .int v14)]) rfl ?_)
          refine go_aload_n (pc := 32) rfl dX8_laysWays_32 ?_
          refine go_iload_n (pc := 33) rfl dX8_laysWays_33 ?_
          have sM16 : (hx.2.1 70 6).toInt = S := (congrArg Int32.toInt ohx.side).trans hS.symm
          refine go_invV (pc := 34) (sl := 0) (s_X8_tryOf_f l (d + 539) hvx v14 (by rw [show (v14 : Int32).toInt = v14.toInt from (ti_rfl v14)]; omega) (by rw [show (v14 : Int32).toInt = v14.toInt from (ti_rfl v14)]; omega) (by rw [sM16]; exact ⟨rdx.1, rdx.2.1⟩) (by rw [sM16]; exact ((II.kx xkx (by omega)).mpr ii))) mL_X8_265 iM_X8_tryOf sM_X8_tryOf (hvx.sh rfl) rfl rfl rfl (Nat.le_of_ble_eq_true rfl) (show d + 539 + 1 + 1 ≤ d + 541 by omega) (show 8 + (4 + 11) + 40 * (d + 539 + 1) ≤ 40 * (d + 541) by omega) (g_c0 hvx.ln) (Nat.le_of_ble_eq_true rfl) dX8_laysWays_34 ?_
          intro r h17 hq _
          obtain ⟨v20, rfl, v20l, v20u, rfl, f18, f19⟩ := hq
          rw [sM16] at f18
          replace f19 : PE _ _ := f19
          have k21 := bd_e k15 f19.symm
          refine go_istore (pc := 37) (Nat.le_of_ble_eq_true rfl) dX8_laysWays_37 (go_lv (lv2 := [(0, .ref 70), (1, .int l1), (2, .int v12), (3, .int v14), (4, .int v20)]) rfl ?_)
          refine go_aload_n (pc := 39) rfl dX8_laysWays_39 ?_
          refine gi_getF (pc := 40) (q := 95) hvx fL_X8_83 rfl (Nat.le_of_ble_eq_true rfl) rfl (hvx.rf (by decide)) dX8_laysWays_40 ?_
          refine go_iload_n (pc := 43) rfl dX8_laysWays_43 ?_
          refine go_aload_n (pc := 44) rfl dX8_laysWays_44 ?_
          refine go_iload_n (pc := 45) rfl dX8_laysWays_45 ?_
          have ty : v20.toInt = -1 ∨ (II h.2.1 S v20.toInt ∧ V h.2.1 77 v20.toInt = 6) := by rcases f18 with z | z; (exact Or.inl z); (exact Or.inr ⟨(II.kx xkx (by omega)).mp z.1, by rw [← xkx.v (c := 77) (by omega) (by omega)]; exact z.2⟩)
          have sM22 : (hx.2.1 70 6).toInt = S := (congrArg Int32.toInt ohx.side).trans hS.symm
          refine go_invV (pc := 46) (sl := 0) (s_X8_behind_f l (d + 0) hvx v14 (by rw [show (v14 : Int32).toInt = v14.toInt from (ti_rfl v14)]; omega) (by rw [show (v14 : Int32).toInt = v14.toInt from (ti_rfl v14)]; omega) (by rw [sM22]; exact ⟨rdx.1, rdx.2.1⟩) (by rw [sM22]; exact ((II.kx xkx (by omega)).mpr ii))) mL_X8_262 iM_X8_behind sM_X8_behind (hvx.sh rfl) rfl rfl rfl (Nat.le_of_ble_eq_true rfl) (show d + 0 + 540 + 1 ≤ d + 541 by omega) (show 8 + (2 + 11) + 40 * (d + 0 + 540) ≤ 40 * (d + 541) by omega) (g_c0 hvx.ln) (Nat.le_of_ble_eq_true rfl) dX8_laysWays_46 ?_
          intro r h23 hq _
          obtain ⟨v26, rfl, v26l, v26u, rfl, f24, f25⟩ := hq
          rw [sM22] at f24
          replace f25 : PE _ _ := f25
          have k27 := bd_e k21 f25.symm
          refine gi_fst (pc := 49) (lo := -1) (hi := 39) (len := 80) hvx e13 (ti_rfl v26) rfl (by omega) (by omega) (fun _ => rfl) (by omega) (by omega) (by omega) dX8_laysWays_49 (fun h28 hv28 hv28e => ?_)
          have fx28 : FX KRM h h28 := FX.pI fxx hv28e (by unfold KRM; omega)
          have k29 := bd_e k27 (st_I hv28e (ti_rfl v26))
          refine go_aload_n (pc := 50) rfl dX8_laysWays_50 ?_
          refine gi_getF (pc := 51) (q := 96) hv28 fL_X8_86 rfl (Nat.le_of_ble_eq_true rfl) rfl (hv28.rf (by decide)) dX8_laysWays_51 ?_
          refine go_iload_n (pc := 54) rfl dX8_laysWays_54 ?_
          refine go_aload_n (pc := 55) rfl dX8_laysWays_55 ?_
          refine gi_getF (pc := 56) (q := 85) hv28 fL_X8_53 rfl (Nat.le_of_ble_eq_true rfl) rfl (hv28.rf (by decide)) dX8_laysWays_56 ?_
          refine go_iload_n (pc := 59) rfl dX8_laysWays_59 ?_
          have E28 : h28.2.1 = (w1 hx.2.1 95 (((40 * S) + l1.toInt)) (v26 : Int32)) := by
            rw [hv28e]
            rw [v1S]
            rfl
          have oh28 : OH h.2.1 h28.2.1 S := by rw [E28]; exact (ohx.trans (OH.w 40 rfl (by omega) (by omega) (by omega) (by omega)))
          have n73_28 : V h28.2.1 73 S = V hx.2.1 73 S := by rw [E28, V_ne (by omega)]
          have n74_28 : V h28.2.1 74 S = V hx.2.1 74 S := by rw [E28, V_ne (by omega)]
          have n75_28 : V h28.2.1 75 S = V hx.2.1 75 S := by rw [E28, V_ne (by omega)]
          have ck28 : CKF h.2.1 → CKF h28.2.1 := fun z => by rw [E28]; exact (CKF.w (by omega) (ckx z))
          refine gi_iald (pc := 60) (lo := -1) (hi := 559) (len := 260) hv28 (ti_rfl v14) rfl (by omega) (by omega) (fun _ => rfl) dX8_laysWays_60 (fun v30 v30l v30u v30w => ?_)
          have k31 := bd_e k29 (congrArg Int32.toInt v30w.symm)
          have v30V : v30.toInt = V h28.2.1 85 v14.toInt := by rw [v30w]; rfl
          refine go_iconst (pc := 61) (v := (-1)) (by decide) dX8_laysWays_61 ?_
          refine gf_icmp_ne (pc := 62) (tgt := 70) (ti_rfl v30) (ti_c (v := (-1)) (a := (-1)) (by decide)) (by decide) dX8_laysWays_62 (fun q32 => ?_) (fun q32 => ?_)
          ·
            have k33 := if_t k31 q32
            refine go_aload_n (pc := 70) rfl dX8_laysWays_70 ?_
            refine go_aload_n (pc := 71) rfl dX8_laysWays_71 ?_
            refine gi_getF (pc := 72) (q := 85) hv28 fL_X8_53 rfl (Nat.le_of_ble_eq_true rfl) rfl (hv28.rf (by decide)) dX8_laysWays_72 ?_
            refine go_iload_n (pc := 75) rfl dX8_laysWays_75 ?_
            refine gi_iald (pc := 76) (lo := -1) (hi := 559) (len := 260) hv28 (ti_rfl v14) rfl (by omega) (by omega) (fun _ => rfl) dX8_laysWays_76 (fun v34 v34l v34u v34w => ?_)
            have k35 := bd_e k33 (congrArg Int32.toInt v34w.symm)
            have v34V : v34.toInt = V h28.2.1 85 v14.toInt := by rw [v34w]; rfl
            have kx36 : KX 94 h.2.1 h28.2.1 := (xkx.trans (show KX 94 hx.2.1 h28.2.1 from by rw [E28]; exact ((KX.rfl 94 _).trans (KX.w (by omega)))))
            have rd37 : RD h28.2.1 S := RD.kx kx36 (by omega) hr
            rcases (rd37.1.2.2.2.2.1 v14.toInt ((II.kx kx36 (by omega)).mpr ii)).1 with t4 | t4
            · exact False.elim (by omega)
            have sM38 : (h28.2.1 70 6).toInt = S := (congrArg Int32.toInt oh28.side).trans hS.symm
            refine go_invV (pc := 77) (sl := 0) (s_X8_firstOf_f l (d + 0) hv28 v34 (by rw [show (v34 : Int32).toInt = v34.toInt from (ti_rfl v34)]; omega) (by rw [show (v34 : Int32).toInt = v34.toInt from (ti_rfl v34)]; omega) (by rw [sM38]; exact ⟨rd37.1, rd37.2.1⟩) (by rw [sM38]; exact (by rw [v34V]; exact t4.1))) mL_X8_253 iM_X8_firstOf sM_X8_firstOf (hv28.sh rfl) rfl rfl rfl (Nat.le_of_ble_eq_true rfl) (show d + 0 + 540 + 1 ≤ d + 541 by omega) (show 8 + (2 + 11) + 40 * (d + 0 + 540) ≤ 40 * (d + 541) by omega) (g_c0 hv28.ln) (Nat.le_of_ble_eq_true rfl) dX8_laysWays_77 ?_
            intro r h39 hq _
            obtain ⟨v42, rfl, v42l, v42u, rfl, f40, f41⟩ := hq
            rw [sM38] at f40
            replace f41 : PE _ _ := f41
            have k43 := bd_e k35 f41.symm
            refine gi_fst (pc := 80) (lo := -2) (hi := 39) (len := 80) hv28 e13 (ti_rfl v42) rfl (by omega) (by omega) (fun _ => rfl) (by omega) (by omega) (by omega) dX8_laysWays_80 (fun h44 hv44 hv44e => ?_)
            have fx44 : FX KRM h h44 := FX.pI fx28 hv44e (by unfold KRM; omega)
            have k45 := bd_e k43 (st_I hv44e (ti_rfl v42))
            have E44 : h44.2.1 = (w1 h28.2.1 96 (((40 * S) + l1.toInt)) (v42 : Int32)) := by
              rw [hv44e]
              rw [v1S]
              rfl
            have oh44 : OH h.2.1 h44.2.1 S := by rw [E44]; exact (oh28.trans (OH.w 40 rfl (by omega) (by omega) (by omega) (by omega)))
            have n73_44 : V h44.2.1 73 S = V h28.2.1 73 S := by rw [E44, V_ne (by omega)]
            have n74_44 : V h44.2.1 74 S = V h28.2.1 74 S := by rw [E44, V_ne (by omega)]
            have n75_44 : V h44.2.1 75 S = V h28.2.1 75 S := by rw [E44, V_ne (by omega)]
            have ck44 : CKF h.2.1 → CKF h44.2.1 := fun z => by rw [E44]; exact (CKF.w (by omega) (ck28 z))
            have z46 : (v12 : Int32).toInt = ((40 * v1.toInt) + l1.toInt) := e13
            exact go_lv rfl (ih.2.1 l1 v12 v14 v20 _ h44 hv44 (MW.trans (MW.trans sqx (MW.mz _ _)) (MW.mz _ _)) (by omega) (by omega) (by omega) (by omega) (by omega) (by omega) (by omega) (by omega) ((xkx.trans (show KX 94 hx.2.1 h28.2.1 from by rw [E28]; exact ((KX.rfl 94 _).trans (KX.w (by omega))))).trans (show KX 94 h28.2.1 h44.2.1 from by rw [E44]; exact ((KX.rfl 94 _).trans (KX.w (by omega))))) (by omega) ii ty (show WJ h.2.1 h44.2.1 S (l1.toInt + 1) from by rw [E44]; exact (WJ.put S0 (by omega) (show WJ h.2.1 h28.2.1 S l1.toInt from by rw [E28]; exact (WJ.same x1 (by omega))) (fun _ => by omega))) oh44 ck44 fx44 (by rw [show (v12 : Int32).toInt = ((40 * v1.toInt) + l1.toInt) from e13]; exact k45) (by omega))
          ·
            have k47 := if_f k31 (fun z => z q32)
            refine go_bipush (pc := 65) (v := (-2)) (by decide) dX8_laysWays_65 ?_
            refine go_goto (pc := 67) (tgt := 80) (by decide) dX8_laysWays_67 ?_
            have kx48 : KX 94 h.2.1 h28.2.1 := (xkx.trans (show KX 94 hx.2.1 h28.2.1 from by rw [E28]; exact ((KX.rfl 94 _).trans (KX.w (by omega)))))
            have rd49 : RD h28.2.1 S := RD.kx kx48 (by omega) hr
            have nk : ¬ (V h.2.1 77 v14.toInt = 2 ∨ V h.2.1 77 v14.toInt = 3) := fun q => by have c := (hr.2.1 v14.toInt ii.1 ii.2).2.2 q; have e := kx48.v (c := 85) (i := v14.toInt) (by omega) (by omega); omega
            refine gi_fst (pc := 80) (lo := -2) (hi := 39) (len := 80) hv28 e13 (ti_c (v := (-2)) (a := (-2)) (by decide)) rfl (by omega) (by omega) (fun _ => rfl) (by omega) (by omega) (by omega) dX8_laysWays_80 (fun h50 hv50 hv50e => ?_)
            have fx50 : FX KRM h h50 := FX.pI fx28 hv50e (by unfold KRM; omega)
            have k51 := bd_e k47 (st_I hv50e (ti_c (v := (-2)) (a := (-2)) (by decide)))
            have E50 : h50.2.1 = (w1 h28.2.1 96 (((40 * S) + l1.toInt)) ((-2) : Int32)) := by
              rw [hv50e]
              rw [v1S]
              rfl
            have oh50 : OH h.2.1 h50.2.1 S := by rw [E50]; exact (oh28.trans (OH.w 40 rfl (by omega) (by omega) (by omega) (by omega)))
            have n73_50 : V h50.2.1 73 S = V h28.2.1 73 S := by rw [E50, V_ne (by omega)]
            have n74_50 : V h50.2.1 74 S = V h28.2.1 74 S := by rw [E50, V_ne (by omega)]
            have n75_50 : V h50.2.1 75 S = V h28.2.1 75 S := by rw [E50, V_ne (by omega)]
            have ck50 : CKF h.2.1 → CKF h50.2.1 := fun z => by rw [E50]; exact (CKF.w (by omega) (ck28 z))
            have z52 : (v12 : Int32).toInt = ((40 * v1.toInt) + l1.toInt) := e13
            exact go_lv rfl (ih.2.1 l1 v12 v14 v20 _ h50 hv50 (MW.trans (MW.trans sqx (MW.mz _ _)) (MW.mz _ _)) (by omega) (by omega) (by omega) (by omega) (by omega) (by omega) (by omega) (by omega) ((xkx.trans (show KX 94 hx.2.1 h28.2.1 from by rw [E28]; exact ((KX.rfl 94 _).trans (KX.w (by omega))))).trans (show KX 94 h28.2.1 h50.2.1 from by rw [E50]; exact ((KX.rfl 94 _).trans (KX.w (by omega))))) (by omega) ii ty (show WJ h.2.1 h50.2.1 S (l1.toInt + 1) from by rw [E50]; exact (WJ.put S0 (by omega) (show WJ h.2.1 h28.2.1 S l1.toInt from by rw [E28]; exact (WJ.same x1 (by omega))) (fun q => absurd (by rw [← iE] at q; exact q) nk))) oh50 ck50 fx50 (by rw [show (v12 : Int32).toInt = ((40 * v1.toInt) + l1.toInt) from e13]; exact k51) (by omega))
      ·
        intro l1 l2 l3 l4 Qx hx hvx sqx l1l l1u l2l l2u l3l l3u l4l l4u x0 x1 x2 x3 x4 ohx ckx fxx kL hm
        rw [f_X8_laysWays_] at kL
        replace kL := if_f kL (by decide)
        replace kL := if_t kL _root_.rfl
        have xkx := x0
        have rdx : RD hx.2.1 S := RD.kx x0 (by omega) hr
        refine go_aload_n (pc := 81) rfl dX8_laysWays_81 ?_
        refine gi_getF (pc := 82) (q := 97) hvx fL_X8_89 rfl (Nat.le_of_ble_eq_true rfl) rfl (hvx.rf (by decide)) dX8_laysWays_82 ?_
        refine go_iload_n (pc := 85) rfl dX8_laysWays_85 ?_
        refine go_aload_n (pc := 86) rfl dX8_laysWays_86 ?_
        refine gi_getF (pc := 87) (q := 86) hvx fL_X8_56 rfl (Nat.le_of_ble_eq_true rfl) rfl (hvx.rf (by decide)) dX8_laysWays_87 ?_
        refine go_iload_n (pc := 90) rfl dX8_laysWays_90 ?_
        refine gi_iald (pc := 91) (lo := -1) (hi := 559) (len := 260) hvx (ti_rfl l3) rfl (by omega) (by omega) (fun _ => rfl) dX8_laysWays_91 (fun v53 v53l v53u v53w => ?_)
        have k54 := bd_e kL (congrArg Int32.toInt v53w.symm)
        have v53V : v53.toInt = V hx.2.1 86 l3.toInt := by rw [v53w]; rfl
        refine go_iconst (pc := 92) (v := (-1)) (by decide) dX8_laysWays_92 ?_
        refine gf_icmp_ne (pc := 93) (tgt := 105) (ti_rfl v53) (ti_c (v := (-1)) (a := (-1)) (by decide)) (by decide) dX8_laysWays_93 (fun q55 => ?_) (fun q55 => ?_)
        ·
          have k56 := if_t k54 q55
          refine go_aload_n (pc := 105) rfl dX8_laysWays_105 ?_
          refine go_aload_n (pc := 106) rfl dX8_laysWays_106 ?_
          refine gi_getF (pc := 107) (q := 86) hvx fL_X8_56 rfl (Nat.le_of_ble_eq_true rfl) rfl (hvx.rf (by decide)) dX8_laysWays_107 ?_
          refine go_iload_n (pc := 110) rfl dX8_laysWays_110 ?_
          refine gi_iald (pc := 111) (lo := -1) (hi := 559) (len := 260) hvx (ti_rfl l3) rfl (by omega) (by omega) (fun _ => rfl) dX8_laysWays_111 (fun v57 v57l v57u v57w => ?_)
          have k58 := bd_e k56 (congrArg Int32.toInt v57w.symm)
          have v57V : v57.toInt = V hx.2.1 86 l3.toInt := by rw [v57w]; rfl
          have kx59 : KX 94 h.2.1 hx.2.1 := xkx
          have rd60 : RD hx.2.1 S := RD.kx kx59 (by omega) hr
          rcases (rd60.1.2.2.2.2.1 l3.toInt ((II.kx kx59 (by omega)).mpr x2)).2 with t4 | t4
          · exact False.elim (by omega)
          have sM61 : (hx.2.1 70 6).toInt = S := (congrArg Int32.toInt ohx.side).trans hS.symm
          refine go_invV (pc := 112) (sl := 0) (s_X8_firstOf_f l (d + 0) hvx v57 (by rw [show (v57 : Int32).toInt = v57.toInt from (ti_rfl v57)]; omega) (by rw [show (v57 : Int32).toInt = v57.toInt from (ti_rfl v57)]; omega) (by rw [sM61]; exact ⟨rd60.1, rd60.2.1⟩) (by rw [sM61]; exact (by rw [v57V]; exact t4.1))) mL_X8_253 iM_X8_firstOf sM_X8_firstOf (hvx.sh rfl) rfl rfl rfl (Nat.le_of_ble_eq_true rfl) (show d + 0 + 540 + 1 ≤ d + 541 by omega) (show 8 + (2 + 11) + 40 * (d + 0 + 540) ≤ 40 * (d + 541) by omega) (g_c0 hvx.ln) (Nat.le_of_ble_eq_true rfl) dX8_laysWays_112 ?_
          intro r h62 hq _
          obtain ⟨v65, rfl, v65l, v65u, rfl, f63, f64⟩ := hq
          rw [sM61] at f63
          replace f64 : PE _ _ := f64
          have k66 := bd_e k58 f64.symm
          refine gi_fst (pc := 115) (lo := -1) (hi := 39) (len := 80) hvx (ti_rfl l2) (ti_rfl v65) rfl (by omega) (by omega) (fun _ => rfl) (by omega) (by omega) (by omega) dX8_laysWays_115 (fun h67 hv67 hv67e => ?_)
          have fx67 : FX KRM h h67 := FX.pI fxx hv67e (by unfold KRM; omega)
          have k68 := bd_e k66 (st_I hv67e (ti_rfl v65))
          have E67 : h67.2.1 = (w1 hx.2.1 97 l2.toInt (v65 : Int32)) := by
            rw [hv67e]
            rfl
          have oh67 : OH h.2.1 h67.2.1 S := by rw [E67]; exact (ohx.trans (OH.w 40 rfl (by omega) (by omega) (by omega) (by omega)))
          have n73_67 : V h67.2.1 73 S = V hx.2.1 73 S := by rw [E67, V_ne (by omega)]
          have n74_67 : V h67.2.1 74 S = V hx.2.1 74 S := by rw [E67, V_ne (by omega)]
          have n75_67 : V h67.2.1 75 S = V hx.2.1 75 S := by rw [E67, V_ne (by omega)]
          have ck67 : CKF h.2.1 → CKF h67.2.1 := fun z => by rw [E67]; exact (CKF.w (by omega) (ckx z))
          exact go_lv rfl (ih.2.2.1 l1 l2 l4 _ h67 hv67 (MW.trans sqx (MW.mz _ _)) (by omega) (by omega) (by omega) (by omega) (by omega) (by omega) (xkx.trans (show KX 94 hx.2.1 h67.2.1 from by rw [E67]; exact ((KX.rfl 94 _).trans (KX.w (by omega))))) (by omega) x3 (show WJ h.2.1 h67.2.1 S (l1.toInt + 1) from by rw [E67]; exact (WJ.same x4 (by omega))) oh67 ck67 fx67 k68 (by omega))
        ·
          have k69 := if_f k54 (fun z => z q55)
          refine go_aload_n (pc := 96) rfl dX8_laysWays_96 ?_
          refine gi_getF (pc := 97) (q := 95) hvx fL_X8_83 rfl (Nat.le_of_ble_eq_true rfl) rfl (hvx.rf (by decide)) dX8_laysWays_97 ?_
          refine go_iload_n (pc := 100) rfl dX8_laysWays_100 ?_
          refine gi_iald (pc := 101) (lo := -1) (hi := 39) (len := 80) hvx (ti_rfl l2) rfl (by omega) (by omega) (fun _ => rfl) dX8_laysWays_101 (fun v70 v70l v70u v70w => ?_)
          have k71 := bd_e k69 (congrArg Int32.toInt v70w.symm)
          have v70V : v70.toInt = V hx.2.1 95 l2.toInt := by rw [v70w]; rfl
          refine go_goto (pc := 102) (tgt := 115) (by decide) dX8_laysWays_102 ?_
          refine gi_fst (pc := 115) (lo := -1) (hi := 39) (len := 80) hvx (ti_rfl l2) (ti_rfl v70) rfl (by omega) (by omega) (fun _ => rfl) (by omega) (by omega) (by omega) dX8_laysWays_115 (fun h72 hv72 hv72e => ?_)
          have fx72 : FX KRM h h72 := FX.pI fxx hv72e (by unfold KRM; omega)
          have k73 := bd_e k71 (st_I hv72e (ti_rfl v70))
          have E72 : h72.2.1 = (w1 hx.2.1 97 l2.toInt (v70 : Int32)) := by
            rw [hv72e]
            rfl
          have oh72 : OH h.2.1 h72.2.1 S := by rw [E72]; exact (ohx.trans (OH.w 40 rfl (by omega) (by omega) (by omega) (by omega)))
          have n73_72 : V h72.2.1 73 S = V hx.2.1 73 S := by rw [E72, V_ne (by omega)]
          have n74_72 : V h72.2.1 74 S = V hx.2.1 74 S := by rw [E72, V_ne (by omega)]
          have n75_72 : V h72.2.1 75 S = V hx.2.1 75 S := by rw [E72, V_ne (by omega)]
          have ck72 : CKF h.2.1 → CKF h72.2.1 := fun z => by rw [E72]; exact (CKF.w (by omega) (ckx z))
          exact go_lv rfl (ih.2.2.1 l1 l2 l4 _ h72 hv72 (MW.trans sqx (MW.mz _ _)) (by omega) (by omega) (by omega) (by omega) (by omega) (by omega) (xkx.trans (show KX 94 hx.2.1 h72.2.1 from by rw [E72]; exact ((KX.rfl 94 _).trans (KX.w (by omega))))) (by omega) x3 (show WJ h.2.1 h72.2.1 S (l1.toInt + 1) from by rw [E72]; exact (WJ.same x4 (by omega))) oh72 ck72 fx72 k73 (by omega))
      ·
        intro l1 l2 l4 Qx hx hvx sqx l1l l1u l2l l2u l4l l4u x0 x1 x2 x3 ohx ckx fxx kL hm
        rw [f_X8_laysWays_] at kL
        replace kL := if_f kL (by decide)
        replace kL := if_f kL (by decide)
        replace kL := if_t kL _root_.rfl
        have xkx := x0
        have rdx : RD hx.2.1 S := RD.kx x0 (by omega) hr
        refine go_aload_n (pc := 116) rfl dX8_laysWays_116 ?_
        refine gi_getF (pc := 117) (q := 98) hvx fL_X8_92 rfl (Nat.le_of_ble_eq_true rfl) rfl (hvx.rf (by decide)) dX8_laysWays_117 ?_
        refine go_iload_n (pc := 120) rfl dX8_laysWays_120 ?_
        refine go_iload (pc := 121) rfl dX8_laysWays_121 ?_
        refine go_iconst (pc := 123) (v := (-1)) (by decide) dX8_laysWays_123 ?_
        refine gf_icmp_ne (pc := 124) (tgt := 131) (ti_rfl l4) (ti_c (v := (-1)) (a := (-1)) (by decide)) (by decide) dX8_laysWays_124 (fun q74 => ?_) (fun q74 => ?_)
        ·
          have k75 := if_t kL q74
          refine go_aload_n (pc := 131) rfl dX8_laysWays_131 ?_
          refine go_aload_n (pc := 132) rfl dX8_laysWays_132 ?_
          refine gi_getF (pc := 133) (q := 86) hvx fL_X8_56 rfl (Nat.le_of_ble_eq_true rfl) rfl (hvx.rf (by decide)) dX8_laysWays_133 ?_
          refine go_iload (pc := 136) rfl dX8_laysWays_136 ?_
          refine gi_iald (pc := 138) (lo := -1) (hi := 559) (len := 260) hvx (ti_rfl l4) rfl (by omega) (by omega) (fun _ => rfl) dX8_laysWays_138 (fun v76 v76l v76u v76w => ?_)
          have k77 := bd_e k75 (congrArg Int32.toInt v76w.symm)
          have v76V : v76.toInt = V hx.2.1 86 l4.toInt := by rw [v76w]; rfl
          have kx78 : KX 94 h.2.1 hx.2.1 := xkx
          have rd79 : RD hx.2.1 S := RD.kx kx78 (by omega) hr
          have ty2q := x2
          rcases ty2q with ty2 | ty2
          · exact False.elim (by omega)
          have ti2 : II hx.2.1 S l4.toInt := (II.kx kx78 (by omega)).mpr ty2.1
          have cc := (rd79.2.1 l4.toInt ti2.1 ti2.2).2.1 (by rw [kx78.v (c := 77) (by omega) (by omega)]; exact ty2.2)
          rcases (rd79.1.2.2.2.2.1 l4.toInt ti2).2 with t4 | t4
          · exact False.elim (by omega)
          have sM80 : (hx.2.1 70 6).toInt = S := (congrArg Int32.toInt ohx.side).trans hS.symm
          refine go_invV (pc := 139) (sl := 0) (s_X8_firstOf_f l (d + 0) hvx v76 (by rw [show (v76 : Int32).toInt = v76.toInt from (ti_rfl v76)]; omega) (by rw [show (v76 : Int32).toInt = v76.toInt from (ti_rfl v76)]; omega) (by rw [sM80]; exact ⟨rd79.1, rd79.2.1⟩) (by rw [sM80]; exact (by rw [v76V]; exact t4.1))) mL_X8_253 iM_X8_firstOf sM_X8_firstOf (hvx.sh rfl) rfl rfl rfl (Nat.le_of_ble_eq_true rfl) (show d + 0 + 540 + 1 ≤ d + 541 by omega) (show 8 + (2 + 11) + 40 * (d + 0 + 540) ≤ 40 * (d + 541) by omega) (g_c0 hvx.ln) (Nat.le_of_ble_eq_true rfl) dX8_laysWays_139 ?_
          intro r h81 hq _
          obtain ⟨v84, rfl, v84l, v84u, rfl, f82, f83⟩ := hq
          rw [sM80] at f82
          replace f83 : PE _ _ := f83
          have k85 := bd_e k77 f83.symm
          refine gi_fst (pc := 142) (lo := -1) (hi := 39) (len := 80) hvx (ti_rfl l2) (ti_rfl v84) rfl (by omega) (by omega) (fun _ => rfl) (by omega) (by omega) (by omega) dX8_laysWays_142 (fun h86 hv86 hv86e => ?_)
          have fx86 : FX KRM h h86 := FX.pI fxx hv86e (by unfold KRM; omega)
          have k87 := bd_e k85 (st_I hv86e (ti_rfl v84))
          refine go_aload_n (pc := 143) rfl dX8_laysWays_143 ?_
          refine gi_getF (pc := 144) (q := 99) hv86 fL_X8_95 rfl (Nat.le_of_ble_eq_true rfl) rfl (hv86.rf (by decide)) dX8_laysWays_144 ?_
          refine go_iload_n (pc := 147) rfl dX8_laysWays_147 ?_
          refine go_iload (pc := 148) rfl dX8_laysWays_148 ?_
          refine go_iconst (pc := 150) (v := (-1)) (by decide) dX8_laysWays_150 ?_
          have E86 : h86.2.1 = (w1 hx.2.1 98 l2.toInt (v84 : Int32)) := by
            rw [hv86e]
            rfl
          have oh86 : OH h.2.1 h86.2.1 S := by rw [E86]; exact (ohx.trans (OH.w 40 rfl (by omega) (by omega) (by omega) (by omega)))
          have n73_86 : V h86.2.1 73 S = V hx.2.1 73 S := by rw [E86, V_ne (by omega)]
          have n74_86 : V h86.2.1 74 S = V hx.2.1 74 S := by rw [E86, V_ne (by omega)]
          have n75_86 : V h86.2.1 75 S = V hx.2.1 75 S := by rw [E86, V_ne (by omega)]
          have ck86 : CKF h.2.1 → CKF h86.2.1 := fun z => by rw [E86]; exact (CKF.w (by omega) (ckx z))
          refine gf_icmp_ne (pc := 151) (tgt := 158) (ti_rfl l4) (ti_c (v := (-1)) (a := (-1)) (by decide)) (by decide) dX8_laysWays_151 (fun q88 => ?_) (fun q88 => False.elim (by omega))
          refine go_aload_n (pc := 158) rfl dX8_laysWays_158 ?_
          refine gi_getF (pc := 159) (q := 82) hv86 fL_X8_44 rfl (Nat.le_of_ble_eq_true rfl) rfl (hv86.rf (by decide)) dX8_laysWays_159 ?_
          refine go_iload (pc := 162) rfl dX8_laysWays_162 ?_
          refine gi_iald (pc := 164) (lo := -1) (hi := 9) (len := 260) hv86 (ti_rfl l4) rfl (by omega) (by omega) (fun _ => rfl) dX8_laysWays_164 (fun v89 v89l v89u v89w => ?_)
          have k90 := bd_e k87 (congrArg Int32.toInt v89w.symm)
          have v89V : v89.toInt = V h86.2.1 82 l4.toInt := by rw [v89w]; rfl
          have kx91 : KX 94 h.2.1 h86.2.1 := (xkx.trans (show KX 94 hx.2.1 h86.2.1 from by rw [E86]; exact ((KX.rfl 94 _).trans (KX.w (by omega)))))
          have rd92 : RD h86.2.1 S := RD.kx kx91 (by omega) hr
          have k5 : v89.toInt ≤ 5 := by
            have ty3q := x2
            rcases ty3q with ty3 | ty3
            · exact False.elim (by omega)
            have ti3 : II h86.2.1 S l4.toInt := (II.kx kx91 (by omega)).mpr ty3.1
            have cc := (rd92.2.1 l4.toInt ti3.1 ti3.2).2.1 (by rw [kx91.v (c := 77) (by omega) (by omega)]; exact ty3.2)
            omega
          refine gi_fst (pc := 165) (lo := -1) (hi := 5) (len := 80) hv86 (ti_rfl l2) (ti_rfl v89) rfl (by omega) (by omega) (fun _ => rfl) (by omega) (by omega) (by omega) dX8_laysWays_165 (fun h93 hv93 hv93e => ?_)
          have fx93 : FX KRM h h93 := FX.pI fx86 hv93e (by unfold KRM; omega)
          have k94 := bd_e k90 (st_I hv93e (ti_rfl v89))
          refine gf_iinc (pc := 166) (Nat.le_of_ble_eq_true rfl) rfl (ti_rfl l1) (ti_c (by decide)) (by omega) (by omega) dX8_laysWays_166 (fun v95 e96 => ?_)
          refine go_lv (lv2 := [(0, .ref 70), (1, .int v95), (2, .int l2), (4, .int l4)]) rfl ?_
          refine go_goto (pc := 169) (tgt := 2) (by decide) dX8_laysWays_169 ?_
          have E93 : h93.2.1 = (w1 h86.2.1 99 l2.toInt (v89 : Int32)) := by
            rw [hv93e]
            rfl
          have oh93 : OH h.2.1 h93.2.1 S := by rw [E93]; exact (oh86.trans (OH.w 40 rfl (by omega) (by omega) (by omega) (by omega)))
          have n73_93 : V h93.2.1 73 S = V h86.2.1 73 S := by rw [E93, V_ne (by omega)]
          have n74_93 : V h93.2.1 74 S = V h86.2.1 74 S := by rw [E93, V_ne (by omega)]
          have n75_93 : V h93.2.1 75 S = V h86.2.1 75 S := by rw [E93, V_ne (by omega)]
          have ck93 : CKF h.2.1 → CKF h93.2.1 := fun z => by rw [E93]; exact (CKF.w (by omega) (ck86 z))
          have z97 : (v95 : Int32).toInt = (l1.toInt + 1) := e96
          exact go_lv rfl (ih.1 v95 _ h93 hv93 (MW.trans (MW.trans sqx (MW.mz _ _)) (MW.mz _ _)) (by omega) (by omega) ((xkx.trans (show KX 94 hx.2.1 h86.2.1 from by rw [E86]; exact ((KX.rfl 94 _).trans (KX.w (by omega))))).trans (show KX 94 h86.2.1 h93.2.1 from by rw [E93]; exact ((KX.rfl 94 _).trans (KX.w (by omega))))) (by rw [show (v95 : Int32).toInt = l1.toInt + 1 from e96]; exact (show WJ h.2.1 h93.2.1 S (l1.toInt + 1) from by rw [E93]; exact (WJ.same (show WJ h.2.1 h86.2.1 S (l1.toInt + 1) from by rw [E86]; exact (WJ.same x3 (by omega))) (by omega)))) oh93 ck93 fx93 (by rw [show (v95 : Int32).toInt = (l1.toInt + 1) from e96]; exact k94) (by omega))
        ·
          have k98 := if_f kL (fun z => z q74)
          refine go_iconst (pc := 127) (v := (-1)) (by decide) dX8_laysWays_127 ?_
          refine go_goto (pc := 128) (tgt := 142) (by decide) dX8_laysWays_128 ?_
          refine gi_fst (pc := 142) (lo := -1) (hi := 39) (len := 80) hvx (ti_rfl l2) (ti_c (v := (-1)) (a := (-1)) (by decide)) rfl (by omega) (by omega) (fun _ => rfl) (by omega) (by omega) (by omega) dX8_laysWays_142 (fun h99 hv99 hv99e => ?_)
          have fx99 : FX KRM h h99 := FX.pI fxx hv99e (by unfold KRM; omega)
          have k100 := bd_e k98 (st_I hv99e (ti_c (v := (-1)) (a := (-1)) (by decide)))
          refine go_aload_n (pc := 143) rfl dX8_laysWays_143 ?_
          refine gi_getF (pc := 144) (q := 99) hv99 fL_X8_95 rfl (Nat.le_of_ble_eq_true rfl) rfl (hv99.rf (by decide)) dX8_laysWays_144 ?_
          refine go_iload_n (pc := 147) rfl dX8_laysWays_147 ?_
          refine go_iload (pc := 148) rfl dX8_laysWays_148 ?_
          refine go_iconst (pc := 150) (v := (-1)) (by decide) dX8_laysWays_150 ?_
          have E99 : h99.2.1 = (w1 hx.2.1 98 l2.toInt ((-1) : Int32)) := by
            rw [hv99e]
            rfl
          have oh99 : OH h.2.1 h99.2.1 S := by rw [E99]; exact (ohx.trans (OH.w 40 rfl (by omega) (by omega) (by omega) (by omega)))
          have n73_99 : V h99.2.1 73 S = V hx.2.1 73 S := by rw [E99, V_ne (by omega)]
          have n74_99 : V h99.2.1 74 S = V hx.2.1 74 S := by rw [E99, V_ne (by omega)]
          have n75_99 : V h99.2.1 75 S = V hx.2.1 75 S := by rw [E99, V_ne (by omega)]
          have ck99 : CKF h.2.1 → CKF h99.2.1 := fun z => by rw [E99]; exact (CKF.w (by omega) (ckx z))
          refine gf_icmp_ne (pc := 151) (tgt := 158) (ti_rfl l4) (ti_c (v := (-1)) (a := (-1)) (by decide)) (by decide) dX8_laysWays_151 (fun q101 => False.elim (by omega)) (fun q101 => ?_)
          refine go_iconst (pc := 154) (v := (-1)) (by decide) dX8_laysWays_154 ?_
          refine go_goto (pc := 155) (tgt := 165) (by decide) dX8_laysWays_155 ?_
          refine gi_fst (pc := 165) (lo := -1) (hi := 5) (len := 80) hv99 (ti_rfl l2) (ti_c (v := (-1)) (a := (-1)) (by decide)) rfl (by omega) (by omega) (fun _ => rfl) (by omega) (by omega) (by omega) dX8_laysWays_165 (fun h102 hv102 hv102e => ?_)
          have fx102 : FX KRM h h102 := FX.pI fx99 hv102e (by unfold KRM; omega)
          have k103 := bd_e k100 (st_I hv102e (ti_c (v := (-1)) (a := (-1)) (by decide)))
          refine gf_iinc (pc := 166) (Nat.le_of_ble_eq_true rfl) rfl (ti_rfl l1) (ti_c (by decide)) (by omega) (by omega) dX8_laysWays_166 (fun v104 e105 => ?_)
          refine go_lv (lv2 := [(0, .ref 70), (1, .int v104), (2, .int l2), (4, .int l4)]) rfl ?_
          refine go_goto (pc := 169) (tgt := 2) (by decide) dX8_laysWays_169 ?_
          have E102 : h102.2.1 = (w1 h99.2.1 99 l2.toInt ((-1) : Int32)) := by
            rw [hv102e]
            rfl
          have oh102 : OH h.2.1 h102.2.1 S := by rw [E102]; exact (oh99.trans (OH.w 40 rfl (by omega) (by omega) (by omega) (by omega)))
          have n73_102 : V h102.2.1 73 S = V h99.2.1 73 S := by rw [E102, V_ne (by omega)]
          have n74_102 : V h102.2.1 74 S = V h99.2.1 74 S := by rw [E102, V_ne (by omega)]
          have n75_102 : V h102.2.1 75 S = V h99.2.1 75 S := by rw [E102, V_ne (by omega)]
          have ck102 : CKF h.2.1 → CKF h102.2.1 := fun z => by rw [E102]; exact (CKF.w (by omega) (ck99 z))
          have z106 : (v104 : Int32).toInt = (l1.toInt + 1) := e105
          exact go_lv rfl (ih.1 v104 _ h102 hv102 (MW.trans (MW.trans sqx (MW.mz _ _)) (MW.mz _ _)) (by omega) (by omega) ((xkx.trans (show KX 94 hx.2.1 h99.2.1 from by rw [E99]; exact ((KX.rfl 94 _).trans (KX.w (by omega))))).trans (show KX 94 h99.2.1 h102.2.1 from by rw [E102]; exact ((KX.rfl 94 _).trans (KX.w (by omega))))) (by rw [show (v104 : Int32).toInt = l1.toInt + 1 from e105]; exact (show WJ h.2.1 h102.2.1 S (l1.toInt + 1) from by rw [E102]; exact (WJ.same (show WJ h.2.1 h99.2.1 S (l1.toInt + 1) from by rw [E99]; exact (WJ.same x3 (by omega))) (by omega)))) oh102 ck102 fx102 (by rw [show (v104 : Int32).toInt = (l1.toInt + 1) from e105]; exact k103) (by omega))
      ·
        intro l1 Qx hx hvx sqx l1l l1u x0 x1 ohx ckx fxx kL hm
        rw [f_X8_laysWays_] at kL
        replace kL := if_f kL (by decide)
        replace kL := if_f kL (by decide)
        replace kL := if_f kL (by decide)
        have xkx := x0
        have rdx : RD hx.2.1 S := RD.kx x0 (by omega) hr
        refine go_iload_n (pc := 174) rfl dX8_laysWays_174 ?_
        refine go_aload_n (pc := 175) rfl dX8_laysWays_175 ?_
        refine gi_getF (pc := 176) (q := 76) hvx fL_X8_26 rfl (Nat.le_of_ble_eq_true rfl) rfl (hvx.rf (by decide)) dX8_laysWays_176 ?_
        refine go_aload_n (pc := 179) rfl dX8_laysWays_179 ?_
        refine gi_get (pc := 180) (lo := 0) (hi := 1) hvx fL_X8_187 rfl (Nat.le_of_ble_eq_true rfl) rfl rfl dX8_laysWays_180 (fun v107 v107l v107u v107w => ?_)
        have k108 := bd_e kL (congrArg Int32.toInt v107w.symm)
        have v107S : v107.toInt = S := by rw [v107w]; exact (congrArg Int32.toInt ohx.side).trans hS.symm
        refine gi_iald (pc := 183) (lo := 0) (hi := 5) (len := 2) hvx (ti_rfl v107) rfl (by omega) (by omega) (fun _ => rfl) dX8_laysWays_183 (fun v109 v109l v109u v109w => ?_)
        have k110 := bd_e k108 (congrArg Int32.toInt v109w.symm)
        have v109V : v109.toInt = V hx.2.1 76 S := by rw [v109w, v107S]; rfl
        refine gf_icmp_ge (pc := 184) (tgt := 223) (ti_rfl l1) (ti_rfl v109) (by decide) dX8_laysWays_184 (fun q111 => ?_) (fun q111 => ?_)
        ·
          have k112 := if_t k110 q111
          have pp113 : KX 94 h.2.1 hx.2.1 := xkx
          have pp114 : WJ h.2.1 hx.2.1 S (V h.2.1 75 S) := x1
          have pp115 : st hx = f_X8_laysWays (st h) := (k112.symm.trans kf)
          have pp116 : FX KRM h hx := fxx
          subst hS
          exact gi_vret (pc := 223) ⟨rfl, ⟨_, hvx, sqx⟩, pp113, pp114, pp115, pp116, ohx, ckx⟩ hvx dX8_laysWays_223
        ·
          have k117 := if_f k110 (Int.not_le.mpr q111)
          refine go_aload_n (pc := 187) rfl dX8_laysWays_187 ?_
          refine gi_getF (pc := 188) (q := 100) hvx fL_X8_98 rfl (Nat.le_of_ble_eq_true rfl) rfl (hvx.rf (by decide)) dX8_laysWays_188 ?_
          refine go_iconst (pc := 191) (v := 5) (by decide) dX8_laysWays_191 ?_
          refine go_aload_n (pc := 192) rfl dX8_laysWays_192 ?_
          refine gi_get (pc := 193) (lo := 0) (hi := 1) hvx fL_X8_187 rfl (Nat.le_of_ble_eq_true rfl) rfl rfl dX8_laysWays_193 (fun v118 v118l v118u v118w => ?_)
          have v118r : v107 = hx.2.1 70 6 := v107w
          have v118q : TI v118 v107.toInt := by rw [v118w.trans v118r.symm]; exact (ti_rfl v107)
          refine gf_imul (pc := 196) (ti_c (v := 5) (a := 5) (by decide)) v118q (by omega) (by omega) dX8_laysWays_196 (fun v119 e120 => ?_)
          refine go_iload_n (pc := 197) rfl dX8_laysWays_197 ?_
          refine gf_iadd (pc := 198) e120 (ti_rfl l1) (by omega) (by omega) dX8_laysWays_198 (fun v121 e122 => ?_)
          refine go_aload_n (pc := 199) rfl dX8_laysWays_199 ?_
          refine go_aload_n (pc := 200) rfl dX8_laysWays_200 ?_
          refine gi_getF (pc := 201) (q := 94) hvx fL_X8_80 rfl (Nat.le_of_ble_eq_true rfl) rfl (hvx.rf (by decide)) dX8_laysWays_201 ?_
          refine go_iconst (pc := 204) (v := 5) (by decide) dX8_laysWays_204 ?_
          refine go_aload_n (pc := 205) rfl dX8_laysWays_205 ?_
          refine gi_get (pc := 206) (lo := 0) (hi := 1) hvx fL_X8_187 rfl (Nat.le_of_ble_eq_true rfl) rfl rfl dX8_laysWays_206 (fun v123 v123l v123u v123w => ?_)
          have v123r : v107 = hx.2.1 70 6 := v107w
          have v123q : TI v123 v107.toInt := by rw [v123w.trans v123r.symm]; exact (ti_rfl v107)
          refine gf_imul (pc := 209) (ti_c (v := 5) (a := 5) (by decide)) v123q (by omega) (by omega) dX8_laysWays_209 (fun v124 e125 => ?_)
          refine go_iload_n (pc := 210) rfl dX8_laysWays_210 ?_
          refine gf_iadd (pc := 211) e125 (ti_rfl l1) (by omega) (by omega) dX8_laysWays_211 (fun v126 e127 => ?_)
          refine gi_iald (pc := 212) (lo := 0) (hi := 559) (len := 10) hvx e127 rfl (by omega) (by omega) (fun _ => rfl) dX8_laysWays_212 (fun v128 v128l v128u v128w => ?_)
          have k129 := bd_e k117 (congrArg Int32.toInt v128w.symm)
          have v128V : v128.toInt = V hx.2.1 94 (((5 * S) + l1.toInt)) := by rw [v128w, v107S]; rfl
          have kx130 : KX 94 h.2.1 hx.2.1 := xkx
          have rd131 : RD hx.2.1 S := RD.kx kx130 (by omega) hr
          have sM132 : (hx.2.1 70 6).toInt = S := (congrArg Int32.toInt ohx.side).trans hS.symm
          refine go_invV (pc := 213) (sl := 0) (s_X8_firstOf_f l (d + 0) hvx v128 (by rw [show (v128 : Int32).toInt = v128.toInt from (ti_rfl v128)]; omega) (by rw [show (v128 : Int32).toInt = v128.toInt from (ti_rfl v128)]; omega) (by rw [sM132]; exact ⟨rd131.1, rd131.2.1⟩) (by rw [sM132]; exact (by rw [v128V]; exact (rd131.2.2 l1.toInt (by omega) (by omega)).1))) mL_X8_253 iM_X8_firstOf sM_X8_firstOf (hvx.sh rfl) rfl rfl rfl (Nat.le_of_ble_eq_true rfl) (show d + 0 + 540 + 1 ≤ d + 541 by omega) (show 8 + (2 + 11) + 40 * (d + 0 + 540) ≤ 40 * (d + 541) by omega) (g_c0 hvx.ln) (Nat.le_of_ble_eq_true rfl) dX8_laysWays_213 ?_
          intro r h133 hq _
          obtain ⟨v136, rfl, v136l, v136u, rfl, f134, f135⟩ := hq
          rw [sM132] at f134
          replace f135 : PE _ _ := f135
          have k137 := bd_e k129 f135.symm
          refine gi_fst (pc := 216) (lo := -1) (hi := 39) (len := 10) hvx e122 (ti_rfl v136) rfl (by omega) (by omega) (fun _ => rfl) (by omega) (by omega) (by omega) dX8_laysWays_216 (fun h138 hv138 hv138e => ?_)
          have fx138 : FX KRM h h138 := FX.pI fxx hv138e (by unfold KRM; omega)
          have k139 := bd_e k137 (st_I hv138e (ti_rfl v136))
          refine gf_iinc (pc := 217) (Nat.le_of_ble_eq_true rfl) rfl (ti_rfl l1) (ti_c (by decide)) (by omega) (by omega) dX8_laysWays_217 (fun v140 e141 => ?_)
          refine go_lv (lv2 := [(0, .ref 70), (1, .int v140)]) rfl ?_
          refine go_goto (pc := 220) (tgt := 174) (by decide) dX8_laysWays_220 ?_
          have E138 : h138.2.1 = (w1 hx.2.1 100 (((5 * S) + l1.toInt)) (v136 : Int32)) := by
            rw [hv138e]
            rw [v107S]
            rfl
          have oh138 : OH h.2.1 h138.2.1 S := by rw [E138]; exact (ohx.trans (OH.w 5 rfl (by omega) (by omega) (by omega) (by omega)))
          have n73_138 : V h138.2.1 73 S = V hx.2.1 73 S := by rw [E138, V_ne (by omega)]
          have n74_138 : V h138.2.1 74 S = V hx.2.1 74 S := by rw [E138, V_ne (by omega)]
          have n75_138 : V h138.2.1 75 S = V hx.2.1 75 S := by rw [E138, V_ne (by omega)]
          have ck138 : CKF h.2.1 → CKF h138.2.1 := fun z => by rw [E138]; exact (CKF.w (by omega) (ckx z))
          have z142 : (v140 : Int32).toInt = (l1.toInt + 1) := e141
          exact go_lv rfl (ih.2.2.2 v140 _ h138 hv138 (MW.trans sqx (MW.mz _ _)) (by omega) (by omega) (xkx.trans (show KX 94 hx.2.1 h138.2.1 from by rw [E138]; exact ((KX.rfl 94 _).trans (KX.w (by omega))))) (show WJ h.2.1 h138.2.1 S (V h.2.1 75 S) from by rw [E138]; exact (WJ.same x1 (by omega))) oh138 ck138 fx138 (by rw [show (v140 : Int32).toInt = (l1.toInt + 1) from e141]; exact k139) (by omega))
  refine go_iconst (pc := 0) (v := 0) (by decide) dX8_laysWays_0 ?_
  refine go_istore_n (pc := 1) (Nat.le_of_ble_eq_true rfl) dX8_laysWays_1 (go_lv (lv2 := [(0, .ref 70), (1, .int 0)]) rfl ?_)
  have z143 : (0 : Int32).toInt = 0 := (ti_c (v := 0) (a := 0) (by decide))
  exact go_lv rfl ((key 244).1 0 _ h hv (MW.rfl _) (by omega) (by omega) (KX.rfl 94 _) (fun k a b => absurd b (by omega)) oh ck fx (by rw [show (0 : Int32).toInt = 0 from (ti_c (v := 0) (a := 0) (by decide))]; exact k0) (by omega))
set_option maxHeartbeats 4000000 in
set_option maxRecDepth 100000 in
theorem s_X8_laysMay_f (l : Launch) (d : Nat) {P : PP} {h : HP} (hv : Iv P h) (hck : CKF h.2.1) : Mt l yX8_laysMay cX8_laysMay 6 none (d + 6) [.ref 70] h 0 0 (fun r h' => r = none ∧ (∃ Q : PP, Iv Q h' ∧ MW P Q) ∧ (KX 100 h.2.1 h'.2.1) ∧ (FX KRM h h') ∧ (LSP h.2.1 h'.2.1 (h.2.1 70 6).toInt) ∧ (FXP h'.2.1 (h.2.1 70 6).toInt (V h.2.1 76 (h.2.1 70 6).toInt)) ∧ (OH h.2.1 h'.2.1 (h.2.1 70 6).toInt) ∧ (CKF h.2.1 → CKF h'.2.1)) := by
  refine Mt_iv hv (by decide) (Nat.le_of_ble_eq_true rfl) ?_
  show Go l RX8 cX8_laysMay 6 (g_rm (d + 6) 0 0) "laysMay" none 117 0 0 (fun _ _ => True) (fun r h' => r = none ∧ (∃ Q : PP, Iv Q h' ∧ MW P Q) ∧ (KX 100 h.2.1 h'.2.1) ∧ (FX KRM h h') ∧ (LSP h.2.1 h'.2.1 (h.2.1 70 6).toInt) ∧ (FXP h'.2.1 (h.2.1 70 6).toInt (V h.2.1 76 (h.2.1 70 6).toInt)) ∧ (OH h.2.1 h'.2.1 (h.2.1 70 6).toInt) ∧ (CKF h.2.1 → CKF h'.2.1)) 0 0 [(0, .ref 70)] [] h
  obtain ⟨S, hS⟩ : ∃ S : Int, S = (h.2.1 70 6).toInt := ⟨_, rfl⟩
  have S0 : 0 ≤ S := by rw [hS]; exact (hv.2.1 70 6).1
  have S1 : S ≤ 1 := by rw [hS]; exact (hv.2.1 70 6).2
  have oh : OH h.2.1 h.2.1 S := OH.rfl _ _
  have ck : CKF h.2.1 → CKF h.2.1 := id
  have fx : FX KRM h h := FX.rfl
  have key : ∀ n : Nat, (∀ (l1 : Int32) (Qx : PP) (hx : HP), Iv Qx hx → MW P Qx → 0 ≤ l1.toInt → l1.toInt ≤ 5 → (KX 100 h.2.1 hx.2.1) → (∀ k : Int, 0 ≤ k → k < l1.toInt → V hx.2.1 101 (5 * S + k) = 0 ∧ V hx.2.1 102 (5 * S + k) = 0) → OH h.2.1 hx.2.1 S → (CKF h.2.1 → CKF hx.2.1) → FX KRM h hx → (1000 + (5 - l1.toInt) : Int) < n → Go l RX8 cX8_laysMay 6 (g_rm (d + 6) 0 0) "laysMay" none 117 0 0 (fun _ _ => True) (fun r h' => r = none ∧ (∃ Q : PP, Iv Q h' ∧ MW P Q) ∧ (KX 100 h.2.1 h'.2.1) ∧ (FX KRM h h') ∧ (LSP h.2.1 h'.2.1 (h.2.1 70 6).toInt) ∧ (FXP h'.2.1 (h.2.1 70 6).toInt (V h.2.1 76 (h.2.1 70 6).toInt)) ∧ (OH h.2.1 h'.2.1 (h.2.1 70 6).toInt) ∧ (CKF h.2.1 → CKF h'.2.1)) 0 2 [(0, .ref 70), (1, .int l1)] [] hx) ∧ (∀ (l1 : Int32) (Qx : PP) (hx : HP), Iv Qx hx → MW P Qx → 0 ≤ l1.toInt → l1.toInt ≤ 1 → (KX 100 h.2.1 hx.2.1) → (FI hx.2.1 S) → (0 ≤ sm hx.2.1 S ∧ sm hx.2.1 S ≤ 10) → (LSP h.2.1 hx.2.1 S) → (l1.toInt = 0 → FXP hx.2.1 S (V h.2.1 76 S)) → OH h.2.1 hx.2.1 S → (CKF h.2.1 → CKF hx.2.1) → FX KRM h hx → (20 * (10 - sm hx.2.1 S) + 20 * l1.toInt + 5 : Int) < n → Go l RX8 cX8_laysMay 6 (g_rm (d + 6) 0 0) "laysMay" none 117 0 0 (fun _ _ => True) (fun r h' => r = none ∧ (∃ Q : PP, Iv Q h' ∧ MW P Q) ∧ (KX 100 h.2.1 h'.2.1) ∧ (FX KRM h h') ∧ (LSP h.2.1 h'.2.1 (h.2.1 70 6).toInt) ∧ (FXP h'.2.1 (h.2.1 70 6).toInt (V h.2.1 76 (h.2.1 70 6).toInt)) ∧ (OH h.2.1 h'.2.1 (h.2.1 70 6).toInt) ∧ (CKF h.2.1 → CKF h'.2.1)) 0 43 [(0, .ref 70), (1, .int l1)] [] hx) ∧ (∀ (l1 : Int32) (l2 : Int32) (Qx : PP) (hx : HP), Iv Qx hx → MW P Qx → 0 ≤ l1.toInt → l1.toInt ≤ 1 → 0 ≤ l2.toInt → l2.toInt ≤ 5 → (KX 100 h.2.1 hx.2.1) → (FI hx.2.1 S) → (0 ≤ sm hx.2.1 S ∧ sm hx.2.1 S ≤ 10) → (LSP h.2.1 hx.2.1 S) → (l1.toInt = 0 → FXP hx.2.1 S l2.toInt) → OH h.2.1 hx.2.1 S → (CKF h.2.1 → CKF hx.2.1) → FX KRM h hx → (20 * (10 - sm hx.2.1 S) + 20 * l1.toInt + 6 + (5 - l2.toInt) : Int) < n → Go l RX8 cX8_laysMay 6 (g_rm (d + 6) 0 0) "laysMay" none 117 0 0 (fun _ _ => True) (fun r h' => r = none ∧ (∃ Q : PP, Iv Q h' ∧ MW P Q) ∧ (KX 100 h.2.1 h'.2.1) ∧ (FX KRM h h') ∧ (LSP h.2.1 h'.2.1 (h.2.1 70 6).toInt) ∧ (FXP h'.2.1 (h.2.1 70 6).toInt (V h.2.1 76 (h.2.1 70 6).toInt)) ∧ (OH h.2.1 h'.2.1 (h.2.1 70 6).toInt) ∧ (CKF h.2.1 → CKF h'.2.1)) 0 51 [(0, .ref 70), (1, .int l1), (2, .int l2)] [] hx) := by
    intro n
    induction n with
    | zero => exact ⟨(by intros; omega), (by intros; omega), (by intros; omega)⟩
    | succ n ih =>
      refine ⟨?_, ?_, ?_⟩
      ·
        intro l1 Qx hx hvx sqx l1l l1u x0 x1 ohx ckx fxx hm
        have xkx := x0
        have smz := sm_hi hvx S
        refine go_iload_n (pc := 2) rfl dX8_laysMay_2 ?_
        refine go_iconst (pc := 3) (v := 5) (by decide) dX8_laysMay_3 ?_
        refine gf_icmp_ge (pc := 4) (tgt := 41) (ti_rfl l1) (ti_c (v := 5) (a := 5) (by decide)) (by decide) dX8_laysMay_4 (fun q1 => ?_) (fun q1 => ?_)
        ·
          refine go_iconst (pc := 41) (v := 1) (by decide) dX8_laysMay_41 ?_
          refine go_istore_n (pc := 42) (Nat.le_of_ble_eq_true rfl) dX8_laysMay_42 (go_lv (lv2 := [(0, .ref 70), (1, .int 1)]) rfl ?_)
          have z2 : (1 : Int32).toInt = 1 := (ti_c (v := 1) (a := 1) (by decide))
          exact go_lv rfl (ih.2.1 1 _ hx hvx sqx (by omega) (by omega) xkx (FI.zero (by omega) x1) (sm_hi hvx S) (LSP.zero (by omega) x1) (fun z => absurd z (by decide)) ohx ckx fxx (by omega))
        ·
          refine go_aload_n (pc := 7) rfl dX8_laysMay_7 ?_
          refine gi_getF (pc := 8) (q := 101) hvx fL_X8_101 rfl (Nat.le_of_ble_eq_true rfl) rfl (hvx.rf (by decide)) dX8_laysMay_8 ?_
          refine go_iconst (pc := 11) (v := 5) (by decide) dX8_laysMay_11 ?_
          refine go_aload_n (pc := 12) rfl dX8_laysMay_12 ?_
          refine gi_get (pc := 13) (lo := 0) (hi := 1) hvx fL_X8_187 rfl (Nat.le_of_ble_eq_true rfl) rfl rfl dX8_laysMay_13 (fun v3 v3l v3u v3w => ?_)
          have v3S : v3.toInt = S := by rw [v3w]; exact (congrArg Int32.toInt ohx.side).trans hS.symm
          refine gf_imul (pc := 16) (ti_c (v := 5) (a := 5) (by decide)) (ti_rfl v3) (by omega) (by omega) dX8_laysMay_16 (fun v4 e5 => ?_)
          refine go_iload_n (pc := 17) rfl dX8_laysMay_17 ?_
          refine gf_iadd (pc := 18) e5 (ti_rfl l1) (by omega) (by omega) dX8_laysMay_18 (fun v6 e7 => ?_)
          refine go_iconst (pc := 19) (v := 0) (by decide) dX8_laysMay_19 ?_
          refine gi_fzt (pc := 20) (len := 10) hvx e7 (ti_c (v := 0) (a := 0) (by decide)) rfl (by omega) (by omega) (fun _ => rfl) (by omega) (by omega) (by omega) dX8_laysMay_20 (fun h8 hv8 hv8e => ?_)
          have fx8 : FX KRM h h8 := FX.pI fxx hv8e (by unfold KRM; omega)
          refine go_aload_n (pc := 21) rfl dX8_laysMay_21 ?_
          refine gi_getF (pc := 22) (q := 102) hv8 fL_X8_105 rfl (Nat.le_of_ble_eq_true rfl) rfl (hv8.rf (by decide)) dX8_laysMay_22 ?_
          refine go_iconst (pc := 25) (v := 5) (by decide) dX8_laysMay_25 ?_
          refine go_aload_n (pc := 26) rfl dX8_laysMay_26 ?_
          refine gi_get (pc := 27) (lo := 0) (hi := 1) hv8 fL_X8_187 rfl (Nat.le_of_ble_eq_true rfl) rfl rfl dX8_laysMay_27 (fun v9 v9l v9u v9w => ?_)
          have v9r : v3 = h8.2.1 70 6 := (show v3 = h8.2.1 70 6 from by rw [hv8e]; exact (g_iI rfl v3w.symm).symm)
          have v9q : TI v9 v3.toInt := by rw [v9w.trans v9r.symm]; exact (ti_rfl v3)
          refine gf_imul (pc := 30) (ti_c (v := 5) (a := 5) (by decide)) v9q (by omega) (by omega) dX8_laysMay_30 (fun v10 e11 => ?_)
          refine go_iload_n (pc := 31) rfl dX8_laysMay_31 ?_
          refine gf_iadd (pc := 32) e11 (ti_rfl l1) (by omega) (by omega) dX8_laysMay_32 (fun v12 e13 => ?_)
          refine go_iconst (pc := 33) (v := 0) (by decide) dX8_laysMay_33 ?_
          refine gi_fzt (pc := 34) (len := 10) hv8 e13 (ti_c (v := 0) (a := 0) (by decide)) rfl (by omega) (by omega) (fun _ => rfl) (by omega) (by omega) (by omega) dX8_laysMay_34 (fun h14 hv14 hv14e => ?_)
          have fx14 : FX KRM h h14 := FX.pI fx8 hv14e (by unfold KRM; omega)
          refine gf_iinc (pc := 35) (Nat.le_of_ble_eq_true rfl) rfl (ti_rfl l1) (ti_c (by decide)) (by omega) (by omega) dX8_laysMay_35 (fun v15 e16 => ?_)
          refine go_lv (lv2 := [(0, .ref 70), (1, .int v15)]) rfl ?_
          refine go_goto (pc := 38) (tgt := 2) (by decide) dX8_laysMay_38 ?_
          have E14 : h14.2.1 = (w1 (w1 hx.2.1 101 (((5 * S) + l1.toInt)) (0 : Int32)) 102 (((5 * S) + l1.toInt)) (0 : Int32)) := by
            rw [hv14e, hv8e]
            rw [v3S]
            rfl
          have oh14 : OH h.2.1 h14.2.1 S := by rw [E14]; exact ((ohx.trans (OH.w 5 rfl (by omega) (by omega) (by omega) (by omega))).trans (OH.w 5 rfl (by omega) (by omega) (by omega) (by omega)))
          have n73_14 : V h14.2.1 73 S = V hx.2.1 73 S := by rw [E14, V_ne (by omega), V_ne (by omega)]
          have n74_14 : V h14.2.1 74 S = V hx.2.1 74 S := by rw [E14, V_ne (by omega), V_ne (by omega)]
          have n75_14 : V h14.2.1 75 S = V hx.2.1 75 S := by rw [E14, V_ne (by omega), V_ne (by omega)]
          have ck14 : CKF h.2.1 → CKF h14.2.1 := fun z => by rw [E14]; exact (CKF.w (by omega) (CKF.w (by omega) (ckx z)))
          have z17 : (v15 : Int32).toInt = (l1.toInt + 1) := e16
          exact go_lv rfl (ih.1 v15 _ h14 hv14 (MW.trans (MW.trans sqx (MW.mz _ _)) (MW.mz _ _)) (by omega) (by omega) (xkx.trans (show KX 100 hx.2.1 h14.2.1 from by rw [E14]; exact (((KX.rfl 100 _).trans (KX.w (by omega))).trans (KX.w (by omega))))) (by rw [show (v15 : Int32).toInt = l1.toInt + 1 from e16]; exact zf_step S0 (by omega) x1 E14 (by decide) (by decide)) oh14 ck14 fx14 (by omega))
      ·
        intro l1 Qx hx hvx sqx l1l l1u x0 x1 x2 x3 x4 ohx ckx fxx hm
        have xkx := x0
        have e76 := xkx.v (c := 76) (i := S) (by omega) (by omega)
        refine go_iload_n (pc := 43) rfl dX8_laysMay_43 ?_
        refine gf_if_eq (pc := 44) (tgt := 146) (ti_rfl l1) (by decide) dX8_laysMay_44 (fun q18 => ?_) (fun q18 => ?_)
        ·
          have pp19 : KX 100 h.2.1 hx.2.1 := xkx
          have pp20 : FX KRM h hx := fxx
          have pp21 : LSP h.2.1 hx.2.1 S := x3
          have pp22 : FXP hx.2.1 S (V h.2.1 76 S) := (x4 (by omega))
          subst hS
          exact gi_vret (pc := 146) ⟨rfl, ⟨_, hvx, sqx⟩, pp19, pp20, pp21, pp22, ohx, ckx⟩ hvx dX8_laysMay_146
        ·
          refine go_iconst (pc := 47) (v := 0) (by decide) dX8_laysMay_47 ?_
          refine go_istore_n (pc := 48) (Nat.le_of_ble_eq_true rfl) dX8_laysMay_48 (go_lv (lv2 := [(0, .ref 70), (1, .int 0)]) rfl ?_)
          refine go_iconst (pc := 49) (v := 0) (by decide) dX8_laysMay_49 ?_
          refine go_istore_n (pc := 50) (Nat.le_of_ble_eq_true rfl) dX8_laysMay_50 (go_lv (lv2 := [(0, .ref 70), (1, .int 0), (2, .int 0)]) rfl ?_)
          have z23 : (0 : Int32).toInt = 0 := (ti_c (v := 0) (a := 0) (by decide))
          have z24 : (0 : Int32).toInt = 0 := (ti_c (v := 0) (a := 0) (by decide))
          exact go_lv rfl (ih.2.2 0 0 _ hx hvx sqx (by omega) (by omega) (by omega) (by omega) xkx x1 (sm_hi hvx S) x3 (fun _ k a b => by have e : (0 : Int32).toInt = 0 := (by decide); omega) ohx ckx fxx (by omega))
      ·
        intro l1 l2 Qx hx hvx sqx l1l l1u l2l l2u x0 x1 x2 x3 x4 ohx ckx fxx hm
        have xkx := x0
        have e76 := xkx.v (c := 76) (i := S) (by omega) (by omega)
        refine go_iload_n (pc := 51) rfl dX8_laysMay_51 ?_
        refine go_aload_n (pc := 52) rfl dX8_laysMay_52 ?_
        refine gi_getF (pc := 53) (q := 76) hvx fL_X8_26 rfl (Nat.le_of_ble_eq_true rfl) rfl (hvx.rf (by decide)) dX8_laysMay_53 ?_
        refine go_aload_n (pc := 56) rfl dX8_laysMay_56 ?_
        refine gi_get (pc := 57) (lo := 0) (hi := 1) hvx fL_X8_187 rfl (Nat.le_of_ble_eq_true rfl) rfl rfl dX8_laysMay_57 (fun v25 v25l v25u v25w => ?_)
        have v25S : v25.toInt = S := by rw [v25w]; exact (congrArg Int32.toInt ohx.side).trans hS.symm
        refine gi_iald (pc := 60) (lo := 0) (hi := 5) (len := 2) hvx (ti_rfl v25) rfl (by omega) (by omega) (fun _ => rfl) dX8_laysMay_60 (fun v26 v26l v26u v26w => ?_)
        have v26V : v26.toInt = V hx.2.1 76 S := by rw [v26w, v25S]; rfl
        refine gf_icmp_ge (pc := 61) (tgt := 143) (ti_rfl l2) (ti_rfl v26) (by decide) dX8_laysMay_61 (fun q27 => ?_) (fun q27 => ?_)
        ·
          refine go_goto (pc := 143) (tgt := 43) (by decide) dX8_laysMay_143 ?_
          exact go_lv rfl (ih.2.1 l1 _ hx hvx sqx (by omega) (by omega) xkx x1 (sm_hi hvx S) x3 (fun z => FXP.le (x4 z) (by omega)) ohx ckx fxx (by omega))
        ·
          refine go_iconst (pc := 64) (v := 5) (by decide) dX8_laysMay_64 ?_
          refine go_aload_n (pc := 65) rfl dX8_laysMay_65 ?_
          refine gi_get (pc := 66) (lo := 0) (hi := 1) hvx fL_X8_187 rfl (Nat.le_of_ble_eq_true rfl) rfl rfl dX8_laysMay_66 (fun v28 v28l v28u v28w => ?_)
          have v28r : v25 = hx.2.1 70 6 := v25w
          have v28q : TI v28 v25.toInt := by rw [v28w.trans v28r.symm]; exact (ti_rfl v25)
          refine gf_imul (pc := 69) (ti_c (v := 5) (a := 5) (by decide)) v28q (by omega) (by omega) dX8_laysMay_69 (fun v29 e30 => ?_)
          refine go_iload_n (pc := 70) rfl dX8_laysMay_70 ?_
          refine gf_iadd (pc := 71) e30 (ti_rfl l2) (by omega) (by omega) dX8_laysMay_71 (fun v31 e32 => ?_)
          refine go_istore_n (pc := 72) (Nat.le_of_ble_eq_true rfl) dX8_laysMay_72 (go_lv (lv2 := [(0, .ref 70), (1, .int l1), (2, .int l2), (3, .int v31)]) rfl ?_)
          refine go_aload_n (pc := 73) rfl dX8_laysMay_73 ?_
          refine go_iload_n (pc := 74) rfl dX8_laysMay_74 ?_
          refine go_iconst (pc := 75) (v := 0) (by decide) dX8_laysMay_75 ?_
          have sM33 : (hx.2.1 70 6).toInt = S := (congrArg Int32.toInt ohx.side).trans hS.symm
          refine go_invV (pc := 76) (sl := 0) (s_X8_comesTo l (d + 0) hvx l2 (by rw [show (l2 : Int32).toInt = l2.toInt from (ti_rfl l2)]; omega) (by rw [show (l2 : Int32).toInt = l2.toInt from (ti_rfl l2)]; omega) 0 (by rw [show (0 : Int32).toInt = 0 from (ti_c (v := 0) (a := 0) (by decide))]; omega) (by rw [show (0 : Int32).toInt = 0 from (ti_c (v := 0) (a := 0) (by decide))]; omega) (ckx hck)) mL_X8_287 iM_X8_comesTo sM_X8_comesTo (hvx.sh rfl) rfl rfl rfl (Nat.le_of_ble_eq_true rfl) (show d + 0 + 5 + 1 ≤ d + 6 by omega) (show 8 + (13 + 11) + 40 * (d + 0 + 5) ≤ 40 * (d + 6) by omega) (g_c0 hvx.ln) (Nat.le_of_ble_eq_true rfl) dX8_laysMay_76 ?_
          intro r h34 hq _
          obtain ⟨v36, rfl, v36l, v36u, rfl, f35⟩ := hq
          rw [sM33] at f35
          try rw [show (0 : Int32).toInt = 0 from (ti_c (v := 0) (a := 0) (by decide))] at f35
          refine go_istore (pc := 79) (Nat.le_of_ble_eq_true rfl) dX8_laysMay_79 (go_lv (lv2 := [(0, .ref 70), (1, .int l1), (2, .int l2), (3, .int v31), (4, .int v36)]) rfl ?_)
          refine go_aload_n (pc := 81) rfl dX8_laysMay_81 ?_
          refine go_iload_n (pc := 82) rfl dX8_laysMay_82 ?_
          refine go_iconst (pc := 83) (v := 1) (by decide) dX8_laysMay_83 ?_
          have sM37 : (hx.2.1 70 6).toInt = S := (congrArg Int32.toInt ohx.side).trans hS.symm
          refine go_invV (pc := 84) (sl := 0) (s_X8_comesTo l (d + 0) hvx l2 (by rw [show (l2 : Int32).toInt = l2.toInt from (ti_rfl l2)]; omega) (by rw [show (l2 : Int32).toInt = l2.toInt from (ti_rfl l2)]; omega) 1 (by rw [show (1 : Int32).toInt = 1 from (ti_c (v := 1) (a := 1) (by decide))]; omega) (by rw [show (1 : Int32).toInt = 1 from (ti_c (v := 1) (a := 1) (by decide))]; omega) (ckx hck)) mL_X8_287 iM_X8_comesTo sM_X8_comesTo (hvx.sh rfl) rfl rfl rfl (Nat.le_of_ble_eq_true rfl) (show d + 0 + 5 + 1 ≤ d + 6 by omega) (show 8 + (13 + 11) + 40 * (d + 0 + 5) ≤ 40 * (d + 6) by omega) (g_c0 hvx.ln) (Nat.le_of_ble_eq_true rfl) dX8_laysMay_84 ?_
          intro r h38 hq _
          obtain ⟨v40, rfl, v40l, v40u, rfl, f39⟩ := hq
          rw [sM37] at f39
          try rw [show (1 : Int32).toInt = 1 from (ti_c (v := 1) (a := 1) (by decide))] at f39
          refine go_istore (pc := 87) (Nat.le_of_ble_eq_true rfl) dX8_laysMay_87 (go_lv (lv2 := [(0, .ref 70), (1, .int l1), (2, .int l2), (3, .int v31), (4, .int v36), (5, .int v40)]) rfl ?_)
          refine go_iload_n (pc := 89) rfl dX8_laysMay_89 ?_
          refine gf_if_ne (pc := 90) (tgt := 115) (ti_rfl l1) (by decide) dX8_laysMay_90 (fun q41 => ?_) (fun q41 => ?_)
          ·
            refine go_iconst (pc := 115) (v := 1) (by decide) dX8_laysMay_115 ?_
            refine go_goto (pc := 116) (tgt := 120) (by decide) dX8_laysMay_116 ?_
            refine go_istore_n (pc := 120) (Nat.le_of_ble_eq_true rfl) dX8_laysMay_120 (go_lv (lv2 := [(0, .ref 70), (1, .int 1), (2, .int l2), (3, .int v31), (4, .int v36), (5, .int v40)]) rfl ?_)
            refine go_aload_n (pc := 121) rfl dX8_laysMay_121 ?_
            refine gi_getF (pc := 122) (q := 101) hvx fL_X8_101 rfl (Nat.le_of_ble_eq_true rfl) rfl (hvx.rf (by decide)) dX8_laysMay_122 ?_
            refine go_iload_n (pc := 125) rfl dX8_laysMay_125 ?_
            refine go_iload (pc := 126) rfl dX8_laysMay_126 ?_
            refine gi_fzt (pc := 128) (len := 10) hvx e32 (ti_rfl v36) rfl (by omega) (by omega) (fun _ => rfl) (by omega) (by omega) (by omega) dX8_laysMay_128 (fun h42 hv42 hv42e => ?_)
            have fx42 : FX KRM h h42 := FX.pI fxx hv42e (by unfold KRM; omega)
            refine go_aload_n (pc := 129) rfl dX8_laysMay_129 ?_
            refine gi_getF (pc := 130) (q := 102) hv42 fL_X8_105 rfl (Nat.le_of_ble_eq_true rfl) rfl (hv42.rf (by decide)) dX8_laysMay_130 ?_
            refine go_iload_n (pc := 133) rfl dX8_laysMay_133 ?_
            refine go_iload (pc := 134) rfl dX8_laysMay_134 ?_
            refine gi_fzt (pc := 136) (len := 10) hv42 e32 (ti_rfl v40) rfl (by omega) (by omega) (fun _ => rfl) (by omega) (by omega) (by omega) dX8_laysMay_136 (fun h43 hv43 hv43e => ?_)
            have fx43 : FX KRM h h43 := FX.pI fx42 hv43e (by unfold KRM; omega)
            have E43 : h43.2.1 = (w1 (w1 hx.2.1 101 (((5 * S) + l2.toInt)) (v36 : Int32)) 102 (((5 * S) + l2.toInt)) (v40 : Int32)) := by
              rw [hv43e, hv42e]
              rw [v25S]
              rfl
            have oh43 : OH h.2.1 h43.2.1 S := by rw [E43]; exact ((ohx.trans (OH.w 5 rfl (by omega) (by omega) (by omega) (by omega))).trans (OH.w 5 rfl (by omega) (by omega) (by omega) (by omega)))
            have n73_43 : V h43.2.1 73 S = V hx.2.1 73 S := by rw [E43, V_ne (by omega), V_ne (by omega)]
            have n74_43 : V h43.2.1 74 S = V hx.2.1 74 S := by rw [E43, V_ne (by omega), V_ne (by omega)]
            have n75_43 : V h43.2.1 75 S = V hx.2.1 75 S := by rw [E43, V_ne (by omega), V_ne (by omega)]
            have ck43 : CKF h.2.1 → CKF h43.2.1 := fun z => by rw [E43]; exact (CKF.w (by omega) (CKF.w (by omega) (ckx z)))
            have smx := sm_hi hvx S
            have smy := sm_hi hv43 S
            obtain ⟨fi2, k1, k2, k3⟩ := FI.step S0 (by omega) (by omega) x1 E43 f35.1 f35.2 f39.1 f39.2 (by omega) (by omega) (hvx.2.1 101 _) (hvx.2.1 102 _)
            have ls2 := LSP.step S0 (by omega) (by omega) xkx x3 E43 f35.1 f39.1
            have fx2 := FXP.step E43 f35.2 f39.2 (by omega) (by omega)
            refine gf_iinc (pc := 137) (Nat.le_of_ble_eq_true rfl) rfl (ti_rfl l2) (ti_c (by decide)) (by omega) (by omega) dX8_laysMay_137 (fun v44 e45 => ?_)
            refine go_lv (lv2 := [(0, .ref 70), (1, .int 1), (2, .int v44), (3, .int v31), (4, .int v36), (5, .int v40)]) rfl ?_
            refine go_goto (pc := 140) (tgt := 51) (by decide) dX8_laysMay_140 ?_
            have z46 : (1 : Int32).toInt = 1 := (ti_c (v := 1) (a := 1) (by decide))
            have z47 : (v44 : Int32).toInt = (l2.toInt + 1) := e45
            exact go_lv rfl (ih.2.2 1 v44 _ h43 hv43 (MW.trans (MW.trans sqx (MW.mz _ _)) (MW.mz _ _)) (by omega) (by omega) (by omega) (by omega) (xkx.trans (show KX 100 hx.2.1 h43.2.1 from by rw [E43]; exact (((KX.rfl 100 _).trans (KX.w (by omega))).trans (KX.w (by omega))))) fi2 (sm_hi hv43 S) ls2 (fun z => absurd z (by decide)) oh43 ck43 fx43 (by omega))
          ·
            refine go_iload (pc := 93) rfl dX8_laysMay_93 ?_
            refine go_aload_n (pc := 95) rfl dX8_laysMay_95 ?_
            refine gi_getF (pc := 96) (q := 101) hvx fL_X8_101 rfl (Nat.le_of_ble_eq_true rfl) rfl (hvx.rf (by decide)) dX8_laysMay_96 ?_
            refine go_iload_n (pc := 99) rfl dX8_laysMay_99 ?_
            refine gi_zald (pc := 100) (lo := 0) (hi := 1) (len := 10) hvx e32 rfl (by omega) (by omega) (fun _ => rfl) dX8_laysMay_100 (fun v48 v48l v48u v48w => ?_)
            have v48V : v48.toInt = V hx.2.1 101 (((5 * S) + l2.toInt)) := by rw [v48w, v25S]; rfl
            refine gf_icmp_ne (pc := 101) (tgt := 115) (ti_rfl v36) (ti_rfl v48) (by decide) dX8_laysMay_101 (fun q49 => ?_) (fun q49 => ?_)
            ·
              refine go_iconst (pc := 115) (v := 1) (by decide) dX8_laysMay_115 ?_
              refine go_goto (pc := 116) (tgt := 120) (by decide) dX8_laysMay_116 ?_
              refine go_istore_n (pc := 120) (Nat.le_of_ble_eq_true rfl) dX8_laysMay_120 (go_lv (lv2 := [(0, .ref 70), (1, .int 1), (2, .int l2), (3, .int v31), (4, .int v36), (5, .int v40)]) rfl ?_)
              refine go_aload_n (pc := 121) rfl dX8_laysMay_121 ?_
              refine gi_getF (pc := 122) (q := 101) hvx fL_X8_101 rfl (Nat.le_of_ble_eq_true rfl) rfl (hvx.rf (by decide)) dX8_laysMay_122 ?_
              refine go_iload_n (pc := 125) rfl dX8_laysMay_125 ?_
              refine go_iload (pc := 126) rfl dX8_laysMay_126 ?_
              refine gi_fzt (pc := 128) (len := 10) hvx e32 (ti_rfl v36) rfl (by omega) (by omega) (fun _ => rfl) (by omega) (by omega) (by omega) dX8_laysMay_128 (fun h50 hv50 hv50e => ?_)
              have fx50 : FX KRM h h50 := FX.pI fxx hv50e (by unfold KRM; omega)
              refine go_aload_n (pc := 129) rfl dX8_laysMay_129 ?_
              refine gi_getF (pc := 130) (q := 102) hv50 fL_X8_105 rfl (Nat.le_of_ble_eq_true rfl) rfl (hv50.rf (by decide)) dX8_laysMay_130 ?_
              refine go_iload_n (pc := 133) rfl dX8_laysMay_133 ?_
              refine go_iload (pc := 134) rfl dX8_laysMay_134 ?_
              refine gi_fzt (pc := 136) (len := 10) hv50 e32 (ti_rfl v40) rfl (by omega) (by omega) (fun _ => rfl) (by omega) (by omega) (by omega) dX8_laysMay_136 (fun h51 hv51 hv51e => ?_)
              have fx51 : FX KRM h h51 := FX.pI fx50 hv51e (by unfold KRM; omega)
              have E51 : h51.2.1 = (w1 (w1 hx.2.1 101 (((5 * S) + l2.toInt)) (v36 : Int32)) 102 (((5 * S) + l2.toInt)) (v40 : Int32)) := by
                rw [hv51e, hv50e]
                rw [v25S]
                rfl
              have oh51 : OH h.2.1 h51.2.1 S := by rw [E51]; exact ((ohx.trans (OH.w 5 rfl (by omega) (by omega) (by omega) (by omega))).trans (OH.w 5 rfl (by omega) (by omega) (by omega) (by omega)))
              have n73_51 : V h51.2.1 73 S = V hx.2.1 73 S := by rw [E51, V_ne (by omega), V_ne (by omega)]
              have n74_51 : V h51.2.1 74 S = V hx.2.1 74 S := by rw [E51, V_ne (by omega), V_ne (by omega)]
              have n75_51 : V h51.2.1 75 S = V hx.2.1 75 S := by rw [E51, V_ne (by omega), V_ne (by omega)]
              have ck51 : CKF h.2.1 → CKF h51.2.1 := fun z => by rw [E51]; exact (CKF.w (by omega) (CKF.w (by omega) (ckx z)))
              have smx := sm_hi hvx S
              have smy := sm_hi hv51 S
              obtain ⟨fi2, k1, k2, k3⟩ := FI.step S0 (by omega) (by omega) x1 E51 f35.1 f35.2 f39.1 f39.2 (by omega) (by omega) (hvx.2.1 101 _) (hvx.2.1 102 _)
              have ls2 := LSP.step S0 (by omega) (by omega) xkx x3 E51 f35.1 f39.1
              have fx2 := FXP.step E51 f35.2 f39.2 (by omega) (by omega)
              refine gf_iinc (pc := 137) (Nat.le_of_ble_eq_true rfl) rfl (ti_rfl l2) (ti_c (by decide)) (by omega) (by omega) dX8_laysMay_137 (fun v52 e53 => ?_)
              refine go_lv (lv2 := [(0, .ref 70), (1, .int 1), (2, .int v52), (3, .int v31), (4, .int v36), (5, .int v40)]) rfl ?_
              refine go_goto (pc := 140) (tgt := 51) (by decide) dX8_laysMay_140 ?_
              have z54 : (1 : Int32).toInt = 1 := (ti_c (v := 1) (a := 1) (by decide))
              have z55 : (v52 : Int32).toInt = (l2.toInt + 1) := e53
              exact go_lv rfl (ih.2.2 1 v52 _ h51 hv51 (MW.trans (MW.trans sqx (MW.mz _ _)) (MW.mz _ _)) (by omega) (by omega) (by omega) (by omega) (xkx.trans (show KX 100 hx.2.1 h51.2.1 from by rw [E51]; exact (((KX.rfl 100 _).trans (KX.w (by omega))).trans (KX.w (by omega))))) fi2 (sm_hi hv51 S) ls2 (fun z => absurd z (by decide)) oh51 ck51 fx51 (by omega))
            ·
              refine go_iload (pc := 104) rfl dX8_laysMay_104 ?_
              refine go_aload_n (pc := 106) rfl dX8_laysMay_106 ?_
              refine gi_getF (pc := 107) (q := 102) hvx fL_X8_105 rfl (Nat.le_of_ble_eq_true rfl) rfl (hvx.rf (by decide)) dX8_laysMay_107 ?_
              refine go_iload_n (pc := 110) rfl dX8_laysMay_110 ?_
              refine gi_zald (pc := 111) (lo := 0) (hi := 1) (len := 10) hvx e32 rfl (by omega) (by omega) (fun _ => rfl) dX8_laysMay_111 (fun v56 v56l v56u v56w => ?_)
              have v56V : v56.toInt = V hx.2.1 102 (((5 * S) + l2.toInt)) := by rw [v56w, v25S]; rfl
              refine gf_icmp_eq (pc := 112) (tgt := 119) (ti_rfl v40) (ti_rfl v56) (by decide) dX8_laysMay_112 (fun q57 => ?_) (fun q57 => ?_)
              ·
                refine go_iconst (pc := 119) (v := 0) (by decide) dX8_laysMay_119 ?_
                refine go_istore_n (pc := 120) (Nat.le_of_ble_eq_true rfl) dX8_laysMay_120 (go_lv (lv2 := [(0, .ref 70), (1, .int 0), (2, .int l2), (3, .int v31), (4, .int v36), (5, .int v40)]) rfl ?_)
                refine go_aload_n (pc := 121) rfl dX8_laysMay_121 ?_
                refine gi_getF (pc := 122) (q := 101) hvx fL_X8_101 rfl (Nat.le_of_ble_eq_true rfl) rfl (hvx.rf (by decide)) dX8_laysMay_122 ?_
                refine go_iload_n (pc := 125) rfl dX8_laysMay_125 ?_
                refine go_iload (pc := 126) rfl dX8_laysMay_126 ?_
                refine gi_fzt (pc := 128) (len := 10) hvx e32 (ti_rfl v36) rfl (by omega) (by omega) (fun _ => rfl) (by omega) (by omega) (by omega) dX8_laysMay_128 (fun h58 hv58 hv58e => ?_)
                have fx58 : FX KRM h h58 := FX.pI fxx hv58e (by unfold KRM; omega)
                refine go_aload_n (pc := 129) rfl dX8_laysMay_129 ?_
                refine gi_getF (pc := 130) (q := 102) hv58 fL_X8_105 rfl (Nat.le_of_ble_eq_true rfl) rfl (hv58.rf (by decide)) dX8_laysMay_130 ?_
                refine go_iload_n (pc := 133) rfl dX8_laysMay_133 ?_
                refine go_iload (pc := 134) rfl dX8_laysMay_134 ?_
                refine gi_fzt (pc := 136) (len := 10) hv58 e32 (ti_rfl v40) rfl (by omega) (by omega) (fun _ => rfl) (by omega) (by omega) (by omega) dX8_laysMay_136 (fun h59 hv59 hv59e => ?_)
                have fx59 : FX KRM h h59 := FX.pI fx58 hv59e (by unfold KRM; omega)
                have E59 : h59.2.1 = (w1 (w1 hx.2.1 101 (((5 * S) + l2.toInt)) (v36 : Int32)) 102 (((5 * S) + l2.toInt)) (v40 : Int32)) := by
                  rw [hv59e, hv58e]
                  rw [v25S]
                  rfl
                have oh59 : OH h.2.1 h59.2.1 S := by rw [E59]; exact ((ohx.trans (OH.w 5 rfl (by omega) (by omega) (by omega) (by omega))).trans (OH.w 5 rfl (by omega) (by omega) (by omega) (by omega)))
                have n73_59 : V h59.2.1 73 S = V hx.2.1 73 S := by rw [E59, V_ne (by omega), V_ne (by omega)]
                have n74_59 : V h59.2.1 74 S = V hx.2.1 74 S := by rw [E59, V_ne (by omega), V_ne (by omega)]
                have n75_59 : V h59.2.1 75 S = V hx.2.1 75 S := by rw [E59, V_ne (by omega), V_ne (by omega)]
                have ck59 : CKF h.2.1 → CKF h59.2.1 := fun z => by rw [E59]; exact (CKF.w (by omega) (CKF.w (by omega) (ckx z)))
                have smx := sm_hi hvx S
                have smy := sm_hi hv59 S
                obtain ⟨fi2, k1, k2, k3⟩ := FI.step S0 (by omega) (by omega) x1 E59 f35.1 f35.2 f39.1 f39.2 (by omega) (by omega) (hvx.2.1 101 _) (hvx.2.1 102 _)
                have ls2 := LSP.step S0 (by omega) (by omega) xkx x3 E59 f35.1 f39.1
                have fx2 := FXP.step E59 f35.2 f39.2 (by omega) (by omega)
                refine gf_iinc (pc := 137) (Nat.le_of_ble_eq_true rfl) rfl (ti_rfl l2) (ti_c (by decide)) (by omega) (by omega) dX8_laysMay_137 (fun v60 e61 => ?_)
                refine go_lv (lv2 := [(0, .ref 70), (1, .int 0), (2, .int v60), (3, .int v31), (4, .int v36), (5, .int v40)]) rfl ?_
                refine go_goto (pc := 140) (tgt := 51) (by decide) dX8_laysMay_140 ?_
                have z62 : (0 : Int32).toInt = 0 := (ti_c (v := 0) (a := 0) (by decide))
                have z63 : (v60 : Int32).toInt = (l2.toInt + 1) := e61
                exact go_lv rfl (ih.2.2 0 v60 _ h59 hv59 (MW.trans (MW.trans sqx (MW.mz _ _)) (MW.mz _ _)) (by omega) (by omega) (by omega) (by omega) (xkx.trans (show KX 100 hx.2.1 h59.2.1 from by rw [E59]; exact (((KX.rfl 100 _).trans (KX.w (by omega))).trans (KX.w (by omega))))) fi2 (sm_hi hv59 S) ls2 (fun _ => by rw [show (v60 : Int32).toInt = l2.toInt + 1 from e61]; exact fx2 (by omega) (by omega) (x4 (by omega))) oh59 ck59 fx59 (by omega))
              ·
                refine go_iconst (pc := 115) (v := 1) (by decide) dX8_laysMay_115 ?_
                refine go_goto (pc := 116) (tgt := 120) (by decide) dX8_laysMay_116 ?_
                refine go_istore_n (pc := 120) (Nat.le_of_ble_eq_true rfl) dX8_laysMay_120 (go_lv (lv2 := [(0, .ref 70), (1, .int 1), (2, .int l2), (3, .int v31), (4, .int v36), (5, .int v40)]) rfl ?_)
                refine go_aload_n (pc := 121) rfl dX8_laysMay_121 ?_
                refine gi_getF (pc := 122) (q := 101) hvx fL_X8_101 rfl (Nat.le_of_ble_eq_true rfl) rfl (hvx.rf (by decide)) dX8_laysMay_122 ?_
                refine go_iload_n (pc := 125) rfl dX8_laysMay_125 ?_
                refine go_iload (pc := 126) rfl dX8_laysMay_126 ?_
                refine gi_fzt (pc := 128) (len := 10) hvx e32 (ti_rfl v36) rfl (by omega) (by omega) (fun _ => rfl) (by omega) (by omega) (by omega) dX8_laysMay_128 (fun h64 hv64 hv64e => ?_)
                have fx64 : FX KRM h h64 := FX.pI fxx hv64e (by unfold KRM; omega)
                refine go_aload_n (pc := 129) rfl dX8_laysMay_129 ?_
                refine gi_getF (pc := 130) (q := 102) hv64 fL_X8_105 rfl (Nat.le_of_ble_eq_true rfl) rfl (hv64.rf (by decide)) dX8_laysMay_130 ?_
                refine go_iload_n (pc := 133) rfl dX8_laysMay_133 ?_
                refine go_iload (pc := 134) rfl dX8_laysMay_134 ?_
                refine gi_fzt (pc := 136) (len := 10) hv64 e32 (ti_rfl v40) rfl (by omega) (by omega) (fun _ => rfl) (by omega) (by omega) (by omega) dX8_laysMay_136 (fun h65 hv65 hv65e => ?_)
                have fx65 : FX KRM h h65 := FX.pI fx64 hv65e (by unfold KRM; omega)
                have E65 : h65.2.1 = (w1 (w1 hx.2.1 101 (((5 * S) + l2.toInt)) (v36 : Int32)) 102 (((5 * S) + l2.toInt)) (v40 : Int32)) := by
                  rw [hv65e, hv64e]
                  rw [v25S]
                  rfl
                have oh65 : OH h.2.1 h65.2.1 S := by rw [E65]; exact ((ohx.trans (OH.w 5 rfl (by omega) (by omega) (by omega) (by omega))).trans (OH.w 5 rfl (by omega) (by omega) (by omega) (by omega)))
                have n73_65 : V h65.2.1 73 S = V hx.2.1 73 S := by rw [E65, V_ne (by omega), V_ne (by omega)]
                have n74_65 : V h65.2.1 74 S = V hx.2.1 74 S := by rw [E65, V_ne (by omega), V_ne (by omega)]
                have n75_65 : V h65.2.1 75 S = V hx.2.1 75 S := by rw [E65, V_ne (by omega), V_ne (by omega)]
                have ck65 : CKF h.2.1 → CKF h65.2.1 := fun z => by rw [E65]; exact (CKF.w (by omega) (CKF.w (by omega) (ckx z)))
                have smx := sm_hi hvx S
                have smy := sm_hi hv65 S
                obtain ⟨fi2, k1, k2, k3⟩ := FI.step S0 (by omega) (by omega) x1 E65 f35.1 f35.2 f39.1 f39.2 (by omega) (by omega) (hvx.2.1 101 _) (hvx.2.1 102 _)
                have ls2 := LSP.step S0 (by omega) (by omega) xkx x3 E65 f35.1 f39.1
                have fx2 := FXP.step E65 f35.2 f39.2 (by omega) (by omega)
                refine gf_iinc (pc := 137) (Nat.le_of_ble_eq_true rfl) rfl (ti_rfl l2) (ti_c (by decide)) (by omega) (by omega) dX8_laysMay_137 (fun v66 e67 => ?_)
                refine go_lv (lv2 := [(0, .ref 70), (1, .int 1), (2, .int v66), (3, .int v31), (4, .int v36), (5, .int v40)]) rfl ?_
                refine go_goto (pc := 140) (tgt := 51) (by decide) dX8_laysMay_140 ?_
                have z68 : (1 : Int32).toInt = 1 := (ti_c (v := 1) (a := 1) (by decide))
                have z69 : (v66 : Int32).toInt = (l2.toInt + 1) := e67
                exact go_lv rfl (ih.2.2 1 v66 _ h65 hv65 (MW.trans (MW.trans sqx (MW.mz _ _)) (MW.mz _ _)) (by omega) (by omega) (by omega) (by omega) (xkx.trans (show KX 100 hx.2.1 h65.2.1 from by rw [E65]; exact (((KX.rfl 100 _).trans (KX.w (by omega))).trans (KX.w (by omega))))) fi2 (sm_hi hv65 S) ls2 (fun z => absurd z (by decide)) oh65 ck65 fx65 (by omega))
  refine go_iconst (pc := 0) (v := 0) (by decide) dX8_laysMay_0 ?_
  refine go_istore_n (pc := 1) (Nat.le_of_ble_eq_true rfl) dX8_laysMay_1 (go_lv (lv2 := [(0, .ref 70), (1, .int 0)]) rfl ?_)
  have z70 : (0 : Int32).toInt = 0 := (ti_c (v := 0) (a := 0) (by decide))
  exact go_lv rfl ((key 3001).1 0 _ h hv (MW.rfl _) (by omega) (by omega) (KX.rfl 100 _) (fun k h1 h2 => absurd h2 (by omega)) oh ck fx (by omega))

