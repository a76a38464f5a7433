def m_W : Nat → (ST → Int → Int) × (ST → Int → Int) × (ST → Int → Int) × (ST → Int → Int)
  | 0 => (fun _ _ => 0, fun _ _ => 0, fun _ _ => 0, fun _ _ => 0)
  | n + 1 => (f_X8_entryOf_b (m_W n).2.1, f_X8_firstOf_b (m_W n).2.2.1 (m_W n).1, f_X8_endOf_b (m_W n).2.2.2, f_X8_behind_b (m_W n).2.2.1 (m_W n).1)
def f_X8_entryOf : ST → Int → Int := (m_W 540).1
def f_X8_firstOf : ST → Int → Int := (m_W 540).2.1
def f_X8_endOf : ST → Int → Int := (m_W 540).2.2.1
def f_X8_behind : ST → Int → Int := (m_W 540).2.2.2
theorem b_ways_f (l : Launch) (d : Nat) : ∀ n : Nat, (∀ {P : PP} {h : HP} (_ : Iv P h) (a2 : Int32) (a2l : 0 ≤ a2.toInt) (a2u : a2.toInt ≤ 259) (ht : TR h.2.1 (h.2.1 70 6).toInt ∧ CN h.2.1 (h.2.1 70 6).toInt (130 * (h.2.1 70 6).toInt) 0) (hi : II h.2.1 (h.2.1 70 6).toInt a2.toInt) (hm : 4 * (130 * (h.2.1 70 6).toInt + V h.2.1 73 (h.2.1 70 6).toInt - a2.toInt) + 2 * V h.2.1 80 a2.toInt + 4 ≤ (n : Int)), Mt l yX8_entryOf cX8_entryOf 2 (some .int) (d + n) [.ref 70, .int a2] h 0 0 (fun r h' => ∃ v : Int32, r = some (.int v) ∧ -1 ≤ v.toInt ∧ v.toInt ≤ 39 ∧ h = h' ∧ (v.toInt < V h.2.1 75 (h.2.1 70 6).toInt) ∧ (v.toInt = (m_W n).1 (st h) a2.toInt))) ∧ (∀ {P : PP} {h : HP} (_ : Iv P h) (a2 : Int32) (a2l : 0 ≤ a2.toInt) (a2u : a2.toInt ≤ 559) (ht : TR h.2.1 (h.2.1 70 6).toInt ∧ CN h.2.1 (h.2.1 70 6).toInt (130 * (h.2.1 70 6).toInt) 0) (hb : BB h.2.1 (h.2.1 70 6).toInt a2.toInt) (hm : (V h.2.1 92 a2.toInt = -1 → 4 * V h.2.1 73 (h.2.1 70 6).toInt + 5 ≤ (n : Int)) ∧ (0 ≤ V h.2.1 92 a2.toInt → 4 * (130 * (h.2.1 70 6).toInt + V h.2.1 73 (h.2.1 70 6).toInt - V h.2.1 92 a2.toInt) + 2 * V h.2.1 80 (V h.2.1 92 a2.toInt) + 3 ≤ (n : Int))), Mt l yX8_firstOf cX8_firstOf 2 (some .int) (d + n) [.ref 70, .int a2] h 0 0 (fun r h' => ∃ v : Int32, r = some (.int v) ∧ -1 ≤ v.toInt ∧ v.toInt ≤ 39 ∧ h = h' ∧ (v.toInt < V h.2.1 75 (h.2.1 70 6).toInt) ∧ (v.toInt = (m_W n).2.1 (st h) a2.toInt))) ∧ (∀ {P : PP} {h : HP} (_ : Iv P h) (a2 : Int32) (a2l : 0 ≤ a2.toInt) (a2u : a2.toInt ≤ 559) (ht : TR h.2.1 (h.2.1 70 6).toInt ∧ CN h.2.1 (h.2.1 70 6).toInt (130 * (h.2.1 70 6).toInt) 0) (hb : BB h.2.1 (h.2.1 70 6).toInt a2.toInt) (x : Int) (hx : (V h.2.1 92 a2.toInt = -1 ∧ 1 ≤ (n : Int)) ∨ (XC h.2.1 (h.2.1 70 6).toInt (V h.2.1 92 a2.toInt) x ∧ 4 * (130 * (h.2.1 70 6).toInt + V h.2.1 73 (h.2.1 70 6).toInt - x) + 2 * V h.2.1 80 (V h.2.1 92 a2.toInt) + 2 ≤ (n : Int))), Mt l yX8_endOf cX8_endOf 2 (some .int) (d + n) [.ref 70, .int a2] h 0 0 (fun r h' => ∃ v : Int32, r = some (.int v) ∧ -1 ≤ v.toInt ∧ v.toInt ≤ 39 ∧ h = h' ∧ (v.toInt < V h.2.1 75 (h.2.1 70 6).toInt) ∧ (v.toInt = (m_W n).2.2.1 (st h) a2.toInt))) ∧ (∀ {P : PP} {h : HP} (_ : Iv P h) (a2 : Int32) (a2l : 0 ≤ a2.toInt) (a2u : a2.toInt ≤ 259) (ht : TR h.2.1 (h.2.1 70 6).toInt ∧ CN h.2.1 (h.2.1 70 6).toInt (130 * (h.2.1 70 6).toInt) 0) (hi : II h.2.1 (h.2.1 70 6).toInt a2.toInt) (x : Int) (hx : XC h.2.1 (h.2.1 70 6).toInt a2.toInt x ∧ 4 * (130 * (h.2.1 70 6).toInt + V h.2.1 73 (h.2.1 70 6).toInt - x) + 2 * V h.2.1 80 a2.toInt + 1 ≤ (n : Int)), Mt l yX8_behind cX8_behind 2 (some .int) (d + n) [.ref 70, .int a2] h 0 0 (fun r h' => ∃ v : Int32, r = some (.int v) ∧ -1 ≤ v.toInt ∧ v.toInt ≤ 39 ∧ h = h' ∧ (v.toInt < V h.2.1 75 (h.2.1 70 6).toInt) ∧ (v.toInt = (m_W n).2.2.2 (st h) a2.toInt))) := by
  intro n
  induction n with
  | zero =>
    refine ⟨?_, ?_, ?_, ?_⟩
    · intro P h hv a2 a2l a2u ht hi hm
      exfalso
      have q1 := hi.2
      have q2 := (ht.2 a2.toInt hi.1 hi.2).1
      omega
    · intro P h hv a2 a2l a2u ht hb hm
      exfalso
      have tp := ht.1.1
      rcases (ht.1.2.2.2.2.2.1 a2.toInt hb).2.2.1 with z | z
      · have := hm.1 z; omega
      · have q1 := z.2
        have q2 := (ht.2 _ z.1 z.2).1
        have q3 := (hv.2.1 70 6).1
        have q4 : 0 ≤ (h.2.1 70 6).toInt := q3
        have q5 := z.1
        have := hm.2 (by omega); omega
    · intro P h hv a2 a2l a2u ht hb x hx
      exfalso
      rcases hx with hx | hx
      · have := hx.2; omega
      · have q1 := hx.1.2.1
        rcases (ht.1.2.2.2.2.2.1 a2.toInt hb).2.2.1 with z | z
        · have w := hx.1.1
          have w2 := hx.2
          have q6 := (hv.2.1 80 (V h.2.1 92 a2.toInt).toNat).1
          have q7 : 0 ≤ V h.2.1 80 (V h.2.1 92 a2.toInt) := q6
          omega
        · have q2 := (ht.2 _ z.1 z.2).1
          have := hx.2; omega
    · intro P h hv a2 a2l a2u ht hi x hx
      exfalso
      have q1 := hx.1.2.1
      have q2 := (ht.2 a2.toInt hi.1 hi.2).1
      have := hx.2; omega
  | succ n ih =>
    obtain ⟨hE, hF, hN, hB⟩ := ih
    exact ⟨@s_X8_entryOf_b_f l (d + n) n (m_W n).2.1 hF, @s_X8_firstOf_b_f l (d + n) n (m_W n).2.2.1 (m_W n).1 hN hE, @s_X8_endOf_b_f l (d + n) n (m_W n).2.2.2 hB, @s_X8_behind_b_f l (d + n) n (m_W n).2.2.1 (m_W n).1 hN hE⟩
theorem s_X8_firstOf_f (l : Launch) (d : Nat) {P : PP} {h : HP} (hv : Iv P h) (a2 : Int32) (a2l : 0 ≤ a2.toInt) (a2u : a2.toInt ≤ 559) (ht : TR h.2.1 (h.2.1 70 6).toInt ∧ CN h.2.1 (h.2.1 70 6).toInt (130 * (h.2.1 70 6).toInt) 0) (hb : BB h.2.1 (h.2.1 70 6).toInt a2.toInt) : Mt l yX8_firstOf cX8_firstOf 2 (some .int) (d + 540) [.ref 70, .int a2] h 0 0 (fun r h' => ∃ v : Int32, r = some (.int v) ∧ -1 ≤ v.toInt ∧ v.toInt ≤ 39 ∧ h = h' ∧ (v.toInt < V h.2.1 75 (h.2.1 70 6).toInt) ∧ (v.toInt = f_X8_firstOf (st h) a2.toInt)) := (b_ways_f l d 540).2.1 hv a2 a2l a2u ht hb (by have := ht.1.1; have q : V h.2.1 73 (h.2.1 70 6).toInt ≤ 130 := (hv.2.1 73 _).2; have r : V h.2.1 80 (V h.2.1 92 a2.toInt) ≤ 6 := (hv.2.1 80 _).2; have t5 := (ht.1.2.2.2.2.2.1 a2.toInt hb).2.2.1; exact ⟨fun _ => by omega, fun z => by rcases t5 with t5 | t5; (omega); (have := t5.1; omega)⟩)
theorem s_X8_behind_f (l : Launch) (d : Nat) {P : PP} {h : HP} (hv : Iv P h) (a2 : Int32) (a2l : 0 ≤ a2.toInt) (a2u : a2.toInt ≤ 259) (ht : TR h.2.1 (h.2.1 70 6).toInt ∧ CN h.2.1 (h.2.1 70 6).toInt (130 * (h.2.1 70 6).toInt) 0) (hi : II h.2.1 (h.2.1 70 6).toInt a2.toInt) : Mt l yX8_behind cX8_behind 2 (some .int) (d + 540) [.ref 70, .int a2] h 0 0 (fun r h' => ∃ v : Int32, r = some (.int v) ∧ -1 ≤ v.toInt ∧ v.toInt ≤ 39 ∧ h = h' ∧ (v.toInt < V h.2.1 75 (h.2.1 70 6).toInt) ∧ (v.toInt = f_X8_behind (st h) a2.toInt)) := (b_ways_f l d 540).2.2.2 hv a2 a2l a2u ht hi a2.toInt ⟨XC.self hi, by have := ht.1.1; have := hi.1; have q : V h.2.1 73 (h.2.1 70 6).toInt ≤ 130 := (hv.2.1 73 _).2; have r : V h.2.1 80 a2.toInt ≤ 6 := (hv.2.1 80 _).2; omega⟩

def f_X8_tryOf_ : Nat → Nat → Int → ST → Int
  | 0, _, _, _ => 0
  | n + 1, _, l2, s => bd (s.1 92 (l2).toNat) fun v1 => if v1 = (-1) then ((-1)) else (bd (s.1 92 (l2).toNat) fun v6 => bd (s.1 77 (v6).toNat) fun v8 => if ¬ v8 = 6 then (bd (s.1 88 (v6).toNat) fun v12 => f_X8_tryOf_ n 7 v12 s) else (bd (s.1 85 (v6).toNat) fun v15 => if ¬ v15 = l2 then (bd (s.1 88 (v6).toNat) fun v19 => f_X8_tryOf_ n 7 v19 s) else (v6)))
def f_X8_tryOf (s : ST) (a2 : Int) : Int :=
  bd (s.1 88 (a2).toNat) fun v22 => f_X8_tryOf_ 805 7 v22 s
set_option maxHeartbeats 4000000 in
set_option maxRecDepth 100000 in
theorem s_X8_tryOf_f (l : Launch) (d : Nat) {P : PP} {h : HP} (hv : Iv P h) (a2 : Int32) (a2l : 0 ≤ a2.toInt) (a2u : a2.toInt ≤ 259) (ht : TR h.2.1 (h.2.1 70 6).toInt ∧ CN h.2.1 (h.2.1 70 6).toInt (130 * (h.2.1 70 6).toInt) 0) (hi : II h.2.1 (h.2.1 70 6).toInt a2.toInt) : Mt l yX8_tryOf cX8_tryOf 4 (some .int) (d + 1) [.ref 70, .int a2] h 0 0 (fun r h' => ∃ v : Int32, r = some (.int v) ∧ -1 ≤ v.toInt ∧ v.toInt ≤ 259 ∧ h = h' ∧ (v.toInt = -1 ∨ (II h.2.1 (h.2.1 70 6).toInt v.toInt ∧ V h.2.1 77 v.toInt = 6)) ∧ (v.toInt = f_X8_tryOf (st h) a2.toInt)) := by
  refine Mt_iv hv (by decide) (Nat.le_of_ble_eq_true rfl) ?_
  show Go l RX8 cX8_tryOf 4 (g_rm (d + 1) 0 0) "tryOf" (some .int) 117 0 0 (fun _ _ => True) (fun r h' => ∃ v : Int32, r = some (.int v) ∧ -1 ≤ v.toInt ∧ v.toInt ≤ 259 ∧ h = h' ∧ (v.toInt = -1 ∨ (II h.2.1 (h.2.1 70 6).toInt v.toInt ∧ V h.2.1 77 v.toInt = 6)) ∧ (v.toInt = f_X8_tryOf (st h) a2.toInt)) 0 0 [(0, .ref 70), (1, .int a2)] [] h
  obtain ⟨S, hS⟩ : ∃ S : Int, S = (h.2.1 70 6).toInt := ⟨_, rfl⟩
  have S0 : 0 ≤ S := by rw [hS]; exact (hv.2.1 70 6).1
  have S1 : S ≤ 1 := by rw [hS]; exact (hv.2.1 70 6).2
  rw [← hS] at ht
  rw [← hS] at hi
  obtain ⟨fin, kf⟩ : ∃ z, z = f_X8_tryOf (st h) a2.toInt := ⟨_, _root_.rfl⟩
  have k0 := kf
  unfold f_X8_tryOf at k0
  have key : ∀ n : Nat, (∀ (l2 : Int32), 0 ≤ l2.toInt → l2.toInt ≤ 559 → (BB h.2.1 S l2.toInt) → (-1 ≤ V h.2.1 92 l2.toInt) → fin = f_X8_tryOf_ n 7 l2.toInt (st h) → (3 * (V h.2.1 92 l2.toInt + 1) + 2 : Int) < n → Go l RX8 cX8_tryOf 4 (g_rm (d + 1) 0 0) "tryOf" (some .int) 117 0 0 (fun _ _ => True) (fun r h' => ∃ v : Int32, r = some (.int v) ∧ -1 ≤ v.toInt ∧ v.toInt ≤ 259 ∧ h = h' ∧ (v.toInt = -1 ∨ (II h.2.1 (h.2.1 70 6).toInt v.toInt ∧ V h.2.1 77 v.toInt = 6)) ∧ (v.toInt = f_X8_tryOf (st h) a2.toInt)) 0 7 [(0, .ref 70), (2, .int l2)] [] h) := by
    intro n
    induction n with
    | zero => exact (by intros; omega)
    | succ n ih =>
      refine ?_
      ·
        intro l2 l2l l2u x0 x1 kL hm
        rw [f_X8_tryOf_] at kL
        refine go_aload_n (pc := 7) rfl dX8_tryOf_7 ?_
        refine gi_getF (pc := 8) (q := 92) hv fL_X8_74 rfl (Nat.le_of_ble_eq_true rfl) rfl (hv.rf (by decide)) dX8_tryOf_8 ?_
        refine go_iload_n (pc := 11) rfl dX8_tryOf_11 ?_
        refine gi_iald (pc := 12) (lo := -1) (hi := 259) (len := 560) hv (ti_rfl l2) rfl (by omega) (by omega) (fun _ => rfl) dX8_tryOf_12 (fun v1 v1l v1u v1w => ?_)
        have k2 := bd_e kL (congrArg Int32.toInt v1w.symm)
        have v1V : v1.toInt = V h.2.1 92 l2.toInt := by rw [v1w]; rfl
        refine go_iconst (pc := 13) (v := (-1)) (by decide) dX8_tryOf_13 ?_
        refine gf_icmp_eq (pc := 14) (tgt := 57) (ti_rfl v1) (ti_c (v := (-1)) (a := (-1)) (by decide)) (by decide) dX8_tryOf_14 (fun q3 => ?_) (fun q3 => ?_)
        ·
          have k4 := if_t k2 q3
          refine go_iconst (pc := 57) (v := (-1)) (by decide) dX8_tryOf_57 ?_
          exact gi_iret (pc := 58) (ti_c (v := (-1)) (a := (-1)) (by decide)) ⟨_, rfl, (by rw [show ((-1) : Int32).toInt = (-1) from (ti_c (v := (-1)) (a := (-1)) (by decide))]; omega), (by rw [show ((-1) : Int32).toInt = (-1) from (ti_c (v := (-1)) (a := (-1)) (by decide))]; omega), rfl, (Or.inl (by decide)), (by rw [show ((-1) : Int32).toInt = (-1) from (ti_c (v := (-1)) (a := (-1)) (by decide))]; exact k4.symm.trans kf)⟩ hv dX8_tryOf_58
        ·
          have k5 := if_f k2 q3
          refine go_aload_n (pc := 17) rfl dX8_tryOf_17 ?_
          refine gi_getF (pc := 18) (q := 92) hv fL_X8_74 rfl (Nat.le_of_ble_eq_true rfl) rfl (hv.rf (by decide)) dX8_tryOf_18 ?_
          refine go_iload_n (pc := 21) rfl dX8_tryOf_21 ?_
          refine gi_iald (pc := 22) (lo := -1) (hi := 259) (len := 560) hv (ti_rfl l2) rfl (by omega) (by omega) (fun _ => rfl) dX8_tryOf_22 (fun v6 v6l v6u v6w => ?_)
          have k7 := bd_e k5 (congrArg Int32.toInt v6w.symm)
          have v6V : v6.toInt = V h.2.1 92 l2.toInt := by rw [v6w]; rfl
          have t5 := (ht.1.2.2.2.2.2.1 l2.toInt x0).2.2.1
          rw [← v6V] at t5
          rcases t5 with t5 | t5
          · exact False.elim (by omega)
          refine go_istore_n (pc := 23) (Nat.le_of_ble_eq_true rfl) dX8_tryOf_23 (go_lv (lv2 := [(0, .ref 70), (2, .int l2), (3, .int v6)]) rfl ?_)
          refine go_aload_n (pc := 24) rfl dX8_tryOf_24 ?_
          refine gi_getF (pc := 25) (q := 77) hv fL_X8_29 rfl (Nat.le_of_ble_eq_true rfl) rfl (hv.rf (by decide)) dX8_tryOf_25 ?_
          refine go_iload_n (pc := 28) rfl dX8_tryOf_28 ?_
          refine gi_iald (pc := 29) (lo := 0) (hi := 6) (len := 260) hv (ti_rfl v6) rfl (by omega) (by omega) (fun _ => rfl) dX8_tryOf_29 (fun v8 v8l v8u v8w => ?_)
          have k9 := bd_e k7 (congrArg Int32.toInt v8w.symm)
          have v8V : v8.toInt = V h.2.1 77 v6.toInt := by rw [v8w]; rfl
          refine go_bipush (pc := 30) (v := 6) (by decide) dX8_tryOf_30 ?_
          refine gf_icmp_ne (pc := 32) (tgt := 47) (ti_rfl v8) (ti_c (v := 6) (a := 6) (by decide)) (by decide) dX8_tryOf_32 (fun q10 => ?_) (fun q10 => ?_)
          ·
            have k11 := if_t k9 q10
            refine go_aload_n (pc := 47) rfl dX8_tryOf_47 ?_
            refine gi_getF (pc := 48) (q := 88) hv fL_X8_62 rfl (Nat.le_of_ble_eq_true rfl) rfl (hv.rf (by decide)) dX8_tryOf_48 ?_
            refine go_iload_n (pc := 51) rfl dX8_tryOf_51 ?_
            refine gi_iald (pc := 52) (lo := 0) (hi := 559) (len := 260) hv (ti_rfl v6) rfl (by omega) (by omega) (fun _ => rfl) dX8_tryOf_52 (fun v12 v12l v12u v12w => ?_)
            have k13 := bd_e k11 (congrArg Int32.toInt v12w.symm)
            have v12V : v12.toInt = V h.2.1 88 v6.toInt := by rw [v12w]; rfl
            have t2 : T2 h.2.1 S v6.toInt := ht.1.2.2.1 v6.toInt t5
            unfold T2 at t2
            have t2b : V h.2.1 92 (V h.2.1 88 v6.toInt) < v6.toInt := by rcases t2.2 with z | z <;> omega
            rw [← v12V] at t2b
            have oc : -1 ≤ V h.2.1 92 v12.toInt := (hv.2.1 92 _).1
            refine go_istore_n (pc := 53) (Nat.le_of_ble_eq_true rfl) dX8_tryOf_53 (go_lv (lv2 := [(0, .ref 70), (2, .int v12), (3, .int v6)]) rfl ?_)
            refine go_goto (pc := 54) (tgt := 7) (by decide) dX8_tryOf_54 ?_
            exact go_lv rfl (ih v12  (by omega) (by omega) (by rw [v12V]; exact t2.1) (by omega) k13 (by omega))
          ·
            have k14 := if_f k9 (fun z => z q10)
            refine go_aload_n (pc := 35) rfl dX8_tryOf_35 ?_
            refine gi_getF (pc := 36) (q := 85) hv fL_X8_53 rfl (Nat.le_of_ble_eq_true rfl) rfl (hv.rf (by decide)) dX8_tryOf_36 ?_
            refine go_iload_n (pc := 39) rfl dX8_tryOf_39 ?_
            refine gi_iald (pc := 40) (lo := -1) (hi := 559) (len := 260) hv (ti_rfl v6) rfl (by omega) (by omega) (fun _ => rfl) dX8_tryOf_40 (fun v15 v15l v15u v15w => ?_)
            have k16 := bd_e k14 (congrArg Int32.toInt v15w.symm)
            have v15V : v15.toInt = V h.2.1 85 v6.toInt := by rw [v15w]; rfl
            refine go_iload_n (pc := 41) rfl dX8_tryOf_41 ?_
            refine gf_icmp_ne (pc := 42) (tgt := 47) (ti_rfl v15) (ti_rfl l2) (by decide) dX8_tryOf_42 (fun q17 => ?_) (fun q17 => ?_)
            ·
              have k18 := if_t k16 q17
              refine go_aload_n (pc := 47) rfl dX8_tryOf_47 ?_
              refine gi_getF (pc := 48) (q := 88) hv fL_X8_62 rfl (Nat.le_of_ble_eq_true rfl) rfl (hv.rf (by decide)) dX8_tryOf_48 ?_
              refine go_iload_n (pc := 51) rfl dX8_tryOf_51 ?_
              refine gi_iald (pc := 52) (lo := 0) (hi := 559) (len := 260) hv (ti_rfl v6) rfl (by omega) (by omega) (fun _ => rfl) dX8_tryOf_52 (fun v19 v19l v19u v19w => ?_)
              have k20 := bd_e k18 (congrArg Int32.toInt v19w.symm)
              have v19V : v19.toInt = V h.2.1 88 v6.toInt := by rw [v19w]; rfl
              have t2 : T2 h.2.1 S v6.toInt := ht.1.2.2.1 v6.toInt t5
              unfold T2 at t2
              have t2b : V h.2.1 92 (V h.2.1 88 v6.toInt) < v6.toInt := by rcases t2.2 with z | z <;> omega
              rw [← v19V] at t2b
              have oc : -1 ≤ V h.2.1 92 v19.toInt := (hv.2.1 92 _).1
              refine go_istore_n (pc := 53) (Nat.le_of_ble_eq_true rfl) dX8_tryOf_53 (go_lv (lv2 := [(0, .ref 70), (2, .int v19), (3, .int v6)]) rfl ?_)
              refine go_goto (pc := 54) (tgt := 7) (by decide) dX8_tryOf_54 ?_
              exact go_lv rfl (ih v19  (by omega) (by omega) (by rw [v19V]; exact t2.1) (by omega) k20 (by omega))
            ·
              have k21 := if_f k16 (fun z => z q17)
              refine go_iload_n (pc := 45) rfl dX8_tryOf_45 ?_
              exact gi_iret (pc := 46) (ti_rfl v6) ⟨_, rfl, (by rw [show (v6 : Int32).toInt = v6.toInt from (ti_rfl v6)]; omega), (by rw [show (v6 : Int32).toInt = v6.toInt from (ti_rfl v6)]; omega), rfl, (Or.inr ⟨by rw [← hS]; exact t5, by omega⟩), (k21.symm.trans kf)⟩ hv dX8_tryOf_46
  refine go_aload_n (pc := 0) rfl dX8_tryOf_0 ?_
  refine gi_getF (pc := 1) (q := 88) hv fL_X8_62 rfl (Nat.le_of_ble_eq_true rfl) rfl (hv.rf (by decide)) dX8_tryOf_1 ?_
  refine go_iload_n (pc := 4) rfl dX8_tryOf_4 ?_
  refine gi_iald (pc := 5) (lo := 0) (hi := 559) (len := 260) hv (ti_rfl a2) rfl (by omega) (by omega) (fun _ => rfl) dX8_tryOf_5 (fun v22 v22l v22u v22w => ?_)
  have k23 := bd_e k0 (congrArg Int32.toInt v22w.symm)
  have v22V : v22.toInt = V h.2.1 88 a2.toInt := by rw [v22w]; rfl
  have ob : V h.2.1 92 v22.toInt ≤ 259 := (hv.2.1 92 _).2
  have oc : -1 ≤ V h.2.1 92 v22.toInt := (hv.2.1 92 _).1
  refine go_istore_n (pc := 6) (Nat.le_of_ble_eq_true rfl) dX8_tryOf_6 (go_lv (lv2 := [(0, .ref 70), (1, .int a2), (2, .int v22)]) rfl ?_)
  exact go_lv rfl ((key 805) v22  (by omega) (by omega) (by rw [v22V]; exact (ht.1.2.2.1 a2.toInt hi).1) (by omega) k23 (by omega))

