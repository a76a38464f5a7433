/-! fuel that nobody can count down; the lowest bit of a long -/
noncomputable def BG (n : Nat) : Nat := Classical.choose (⟨n, Nat.le_refl n⟩ : ∃ m, n ≤ m)
theorem BG_le (n : Nat) : n ≤ BG n := Classical.choose_spec (⟨n, Nat.le_refl n⟩ : ∃ m, n ≤ m)
noncomputable def ntzI (a : Int64) : Int := ((Classical.epsilon (fun k : Nat => LB a.toBitVec k) : Nat) : Int)
theorem LB_un {w : Nat} {x : BitVec w} {j k : Nat} (h : LB x j) (g : LB x k) : j = k := by
  rcases Nat.lt_trichotomy j k with q | q | q
  · have := g.2.2 j q; rw [h.2.1] at this; exact absurd this (by decide)
  · exact q
  · have := h.2.2 k q; rw [g.2.1] at this; exact absurd this (by decide)
theorem ntz_eq {a : Int64} {v : Int32} (h0 : 0 ≤ v.toInt) (h : v.toInt ≤ 63 ∧ LB a.toBitVec v.toInt.toNat) : ntzI a = v.toInt := by
  have e : LB a.toBitVec (Classical.epsilon (fun k : Nat => LB a.toBitVec k)) := Classical.epsilon_spec (p := fun k : Nat => LB a.toBitVec k) ⟨_, h.2⟩
  have u := LB_un e h.2
  unfold ntzI
  rw [u]
  omega
/-- all but what a search writes stays -/
def KQ (c j : Nat) : Prop := c ≠ 52 ∧ c ≠ 53 ∧ c ≠ 54 ∧ ¬ (c = 49 ∧ j = 8)

def f_J7_fill_53178_at512_ : Nat → Nat → Int → Int → Int → ST → ST
  | 0, _, _, _, _, sx => sx
  | n + 1, _, l1, l2, l3, sx => if l3 ≤ l2 then (sx) else (bd (sI sx 51 (l2).toNat l1) fun s4 => f_J7_fill_53178_at512_ n 5 l1 ((l2 + 1)) l3 s4)
def f_J7_fill_53178_at512 (s : ST) (a2 : Int) : ST :=
  f_J7_fill_53178_at512_ 109 5 a2 0 30 s
set_option maxHeartbeats 4000000 in
set_option maxRecDepth 100000 in
theorem s_J7_fill_53178_at512_f (l : Launch) (d : Nat) {P : PP} {h : HP} (hv : Iv P h) (a2 : Int32) : Mt l yJ7_fill_53178 cJ7_fill_53178 4 none (d + 1) [.ref 51, .int a2] h 0 0 (fun r h' => r = none ∧ Iv P h' ∧ (st h' = f_J7_fill_53178_at512 (st h) a2.toInt) ∧ (FX KAc h h')) := by
  refine Mt_iv hv (by decide) (Nat.le_of_ble_eq_true rfl) ?_
  show Go l RJ7 cJ7_fill_53178 4 (g_rm (d + 1) 0 0) "fill" none 117 0 0 (fun _ _ => True) (fun r h' => r = none ∧ Iv P h' ∧ (st h' = f_J7_fill_53178_at512 (st h) a2.toInt) ∧ (FX KAc h h')) 0 0 [(0, .ref 51), (1, .int a2)] [] h
  have fx : FX KAc h h := FX.rfl
  obtain ⟨fin, kf⟩ : ∃ z, z = f_J7_fill_53178_at512 (st h) a2.toInt := ⟨_, _root_.rfl⟩
  have k0 := kf
  unfold f_J7_fill_53178_at512 at k0
  have key : ∀ n : Nat, (∀ (l1 : Int32) (l2 : Int32) (l3 : Int32) (hx : HP), Iv P hx → 0 ≤ l2.toInt → l2.toInt ≤ 30 → 30 ≤ l3.toInt → l3.toInt ≤ 30 → FX KAc h hx → fin = f_J7_fill_53178_at512_ n 5 l1.toInt l2.toInt l3.toInt (st hx) → (3 * (30 - l2.toInt) + 2 : Int) < n → Go l RJ7 cJ7_fill_53178 4 (g_rm (d + 1) 0 0) "fill" none 117 0 0 (fun _ _ => True) (fun r h' => r = none ∧ Iv P h' ∧ (st h' = f_J7_fill_53178_at512 (st h) a2.toInt) ∧ (FX KAc h h')) 0 5 [(0, .ref 51), (1, .int l1), (2, .int l2), (3, .int l3)] [] hx) := by
    intro n
    induction n with
    | zero => exact (by intros; omega)
    | succ n ih =>
      refine ?_
      ·
        intro l1 l2 l3 hx hvx l2l l2u l3l l3u fxx kL hm
        rw [f_J7_fill_53178_at512_] at kL
        refine go_iload_n (pc := 5) rfl dJ7_fill_53178_5 ?_
        refine go_iload_n (pc := 6) rfl dJ7_fill_53178_6 ?_
        refine gf_icmp_ge (pc := 7) (tgt := 20) (ti_rfl l2) (ti_rfl l3) (by decide) dJ7_fill_53178_7 (fun q1 => ?_) (fun q1 => ?_)
        ·
          have k2 := if_t kL q1
          exact gi_vret (pc := 20) ⟨rfl, hvx, (k2.symm.trans kf), fxx⟩ hvx dJ7_fill_53178_20
        ·
          have k3 := if_f kL (Int.not_le.mpr q1)
          refine go_aload_n (pc := 10) rfl dJ7_fill_53178_10 ?_
          refine go_iload_n (pc := 11) rfl dJ7_fill_53178_11 ?_
          refine go_iload_n (pc := 12) rfl dJ7_fill_53178_12 ?_
          refine gi_iast (pc := 13) (lo := -2147483648) (hi := 2147483647) (len := 30) hvx (ti_rfl l2) (ti_rfl l1) rfl (by omega) (by omega) (fun _ => rfl) (ti_ge (ti_rfl l1)) (ti_le2 (ti_rfl l1)) (by decide) dJ7_fill_53178_13 (fun h4 hv4 hv4e => ?_)
          have fx4 : FX KAc h h4 := FX.pI fxx hv4e (by unfold KAc; omega)
          have k5 := bd_e k3 (st_I hv4e (ti_rfl l1))
          refine gf_iinc (pc := 14) (Nat.le_of_ble_eq_true rfl) rfl (ti_rfl l2) (ti_c (by decide)) (by omega) (by omega) dJ7_fill_53178_14 (fun v6 e7 => ?_)
          refine go_lv (lv2 := [(0, .ref 51), (1, .int l1), (2, .int v6), (3, .int l3)]) rfl ?_
          refine go_goto (pc := 17) (tgt := 5) (by decide) dJ7_fill_53178_17 ?_
          have z8 : (v6 : Int32).toInt = (l2.toInt + 1) := e7
          exact go_lv rfl (ih l1 v6 l3 h4 hv4 (by omega) (by omega) (by omega) (by omega) fx4 (by rw [show (v6 : Int32).toInt = (l2.toInt + 1) from e7]; exact k5) (by omega))
  refine go_iconst (pc := 0) (v := 0) (by decide) dJ7_fill_53178_0 ?_
  refine go_istore_n (pc := 1) (Nat.le_of_ble_eq_true rfl) dJ7_fill_53178_1 (go_lv (lv2 := [(0, .ref 51), (1, .int a2), (2, .int 0)]) rfl ?_)
  refine go_aload_n (pc := 2) rfl dJ7_fill_53178_2 ?_
  refine go_alen (pc := 3) (v := 30) (hv.sh rfl) (by decide) (by decide) dJ7_fill_53178_3 ?_
  refine go_istore_n (pc := 4) (Nat.le_of_ble_eq_true rfl) dJ7_fill_53178_4 (go_lv (lv2 := [(0, .ref 51), (1, .int a2), (2, .int 0), (3, .int 30)]) rfl ?_)
  have z9 : (0 : Int32).toInt = 0 := (ti_c (v := 0) (a := 0) (by decide))
  have z10 : (30 : Int32).toInt = 30 := (ti_c (v := 30) (a := 30) (by decide))
  exact go_lv rfl ((key 109) a2 0 30 h hv (by omega) (by omega) (by omega) (by omega) fx (by rw [show (0 : Int32).toInt = 0 from (ti_c (v := 0) (a := 0) (by decide)), show (30 : Int32).toInt = 30 from (ti_c (v := 30) (a := 30) (by decide))]; exact k0) (by omega))
def f_J7_fill_d0a16_at522_ : Nat → Nat → Int64 → Int → Int → ST → ST
  | 0, _, _, _, _, sx => sx
  | n + 1, _, l1, l3, l4, sx => if l4 ≤ l3 then (sx) else (bd (sL sx 52 (l3).toNat l1) fun s4 => f_J7_fill_d0a16_at522_ n 6 l1 ((l3 + 1)) l4 s4)
def f_J7_fill_d0a16_at522 (s : ST) (a2 : Int64) : ST :=
  f_J7_fill_d0a16_at522_ 58 6 a2 0 13 s
set_option maxHeartbeats 4000000 in
set_option maxRecDepth 100000 in
theorem s_J7_fill_d0a16_at522_f (l : Launch) (d : Nat) {P : PP} {h : HP} (hv : Iv P h) (a2 : Int64) : Mt l yJ7_fill_d0a16 cJ7_fill_d0a16 5 none (d + 1) [.ref 52, .long a2] h 0 0 (fun r h' => r = none ∧ Iv P h' ∧ (st h' = f_J7_fill_d0a16_at522 (st h) a2) ∧ (FX KQ h h')) := by
  refine Mt_iv hv (by decide) (Nat.le_of_ble_eq_true rfl) ?_
  show Go l RJ7 cJ7_fill_d0a16 5 (g_rm (d + 1) 0 0) "fill" none 117 0 0 (fun _ _ => True) (fun r h' => r = none ∧ Iv P h' ∧ (st h' = f_J7_fill_d0a16_at522 (st h) a2) ∧ (FX KQ h h')) 0 0 [(0, .ref 52), (1, .long a2)] [] h
  have fx : FX KQ h h := FX.rfl
  obtain ⟨fin, kf⟩ : ∃ z, z = f_J7_fill_d0a16_at522 (st h) a2 := ⟨_, _root_.rfl⟩
  have k0 := kf
  unfold f_J7_fill_d0a16_at522 at k0
  have key : ∀ n : Nat, (∀ (l1 : Int64) (l3 : Int32) (l4 : Int32) (hx : HP), Iv P hx → 0 ≤ l3.toInt → l3.toInt ≤ 13 → 13 ≤ l4.toInt → l4.toInt ≤ 13 → FX KQ h hx → fin = f_J7_fill_d0a16_at522_ n 6 l1 l3.toInt l4.toInt (st hx) → (3 * (13 - l3.toInt) + 2 : Int) < n → Go l RJ7 cJ7_fill_d0a16 5 (g_rm (d + 1) 0 0) "fill" none 117 0 0 (fun _ _ => True) (fun r h' => r = none ∧ Iv P h' ∧ (st h' = f_J7_fill_d0a16_at522 (st h) a2) ∧ (FX KQ h h')) 0 6 [(0, .ref 52), (1, .long l1), (3, .int l3), (4, .int l4)] [] hx) := by
    intro n
    induction n with
    | zero => exact (by intros; omega)
    | succ n ih =>
      refine ?_
      ·
        intro l1 l3 l4 hx hvx l3l l3u l4l l4u fxx kL hm
        rw [f_J7_fill_d0a16_at522_] at kL
        refine go_iload_n (pc := 6) rfl dJ7_fill_d0a16_6 ?_
        refine go_iload (pc := 7) rfl dJ7_fill_d0a16_7 ?_
        refine gf_icmp_ge (pc := 9) (tgt := 22) (ti_rfl l3) (ti_rfl l4) (by decide) dJ7_fill_d0a16_9 (fun q1 => ?_) (fun q1 => ?_)
        ·
          have k2 := if_t kL q1
          exact gi_vret (pc := 22) ⟨rfl, hvx, (k2.symm.trans kf), fxx⟩ hvx dJ7_fill_d0a16_22
        ·
          have k3 := if_f kL (Int.not_le.mpr q1)
          refine go_aload_n (pc := 12) rfl dJ7_fill_d0a16_12 ?_
          refine go_iload_n (pc := 13) rfl dJ7_fill_d0a16_13 ?_
          refine go_lload_n (pc := 14) rfl dJ7_fill_d0a16_14 ?_
          refine gi_last (pc := 15) (len := 13) hvx (ti_rfl l3) rfl (by omega) (by omega) dJ7_fill_d0a16_15 (fun h4 hv4 hv4e => ?_)
          have fx4 : FX KQ h h4 := FX.pL fxx hv4e (by unfold KQ; omega)
          have k5 := bd_e k3 (st_L hv4e)
          refine gf_iinc (pc := 16) (Nat.le_of_ble_eq_true rfl) rfl (ti_rfl l3) (ti_c (by decide)) (by omega) (by omega) dJ7_fill_d0a16_16 (fun v6 e7 => ?_)
          refine go_lv (lv2 := [(0, .ref 52), (1, .long l1), (3, .int v6), (4, .int l4)]) rfl ?_
          refine go_goto (pc := 19) (tgt := 6) (by decide) dJ7_fill_d0a16_19 ?_
          have z8 : (v6 : Int32).toInt = (l3.toInt + 1) := e7
          exact go_lv rfl (ih l1 v6 l4 h4 hv4 (by omega) (by omega) (by omega) (by omega) fx4 (by rw [show (v6 : Int32).toInt = (l3.toInt + 1) from e7]; exact k5) (by omega))
  refine go_iconst (pc := 0) (v := 0) (by decide) dJ7_fill_d0a16_0 ?_
  refine go_istore_n (pc := 1) (Nat.le_of_ble_eq_true rfl) dJ7_fill_d0a16_1 (go_lv (lv2 := [(0, .ref 52), (1, .long a2), (3, .int 0)]) rfl ?_)
  refine go_aload_n (pc := 2) rfl dJ7_fill_d0a16_2 ?_
  refine go_alen (pc := 3) (v := 13) (hv.sh rfl) (by decide) (by decide) dJ7_fill_d0a16_3 ?_
  refine go_istore (pc := 4) (Nat.le_of_ble_eq_true rfl) dJ7_fill_d0a16_4 (go_lv (lv2 := [(0, .ref 52), (1, .long a2), (3, .int 0), (4, .int 13)]) rfl ?_)
  have z9 : (0 : Int32).toInt = 0 := (ti_c (v := 0) (a := 0) (by decide))
  have z10 : (13 : Int32).toInt = 13 := (ti_c (v := 13) (a := 13) (by decide))
  exact go_lv rfl ((key 58) a2 0 13 h hv (by omega) (by omega) (by omega) (by omega) fx (by rw [show (0 : Int32).toInt = 0 from (ti_c (v := 0) (a := 0) (by decide)), show (13 : Int32).toInt = 13 from (ti_c (v := 13) (a := 13) (by decide))]; exact k0) (by omega))
def f_J7_fill_d0a16_at532_ : Nat → Nat → Int64 → Int → Int → ST → ST
  | 0, _, _, _, _, sx => sx
  | n + 1, _, l1, l3, l4, sx => if l4 ≤ l3 then (sx) else (bd (sL sx 53 (l3).toNat l1) fun s4 => f_J7_fill_d0a16_at532_ n 6 l1 ((l3 + 1)) l4 s4)
def f_J7_fill_d0a16_at532 (s : ST) (a2 : Int64) : ST :=
  f_J7_fill_d0a16_at532_ 58 6 a2 0 13 s
set_option maxHeartbeats 4000000 in
set_option maxRecDepth 100000 in
theorem s_J7_fill_d0a16_at532_f (l : Launch) (d : Nat) {P : PP} {h : HP} (hv : Iv P h) (a2 : Int64) : Mt l yJ7_fill_d0a16 cJ7_fill_d0a16 5 none (d + 1) [.ref 53, .long a2] h 0 0 (fun r h' => r = none ∧ Iv P h' ∧ (st h' = f_J7_fill_d0a16_at532 (st h) a2) ∧ (FX KQ h h')) := by
  refine Mt_iv hv (by decide) (Nat.le_of_ble_eq_true rfl) ?_
  show Go l RJ7 cJ7_fill_d0a16 5 (g_rm (d + 1) 0 0) "fill" none 117 0 0 (fun _ _ => True) (fun r h' => r = none ∧ Iv P h' ∧ (st h' = f_J7_fill_d0a16_at532 (st h) a2) ∧ (FX KQ h h')) 0 0 [(0, .ref 53), (1, .long a2)] [] h
  have fx : FX KQ h h := FX.rfl
  obtain ⟨fin, kf⟩ : ∃ z, z = f_J7_fill_d0a16_at532 (st h) a2 := ⟨_, _root_.rfl⟩
  have k0 := kf
  unfold f_J7_fill_d0a16_at532 at k0
  have key : ∀ n : Nat, (∀ (l1 : Int64) (l3 : Int32) (l4 : Int32) (hx : HP), Iv P hx → 0 ≤ l3.toInt → l3.toInt ≤ 13 → 13 ≤ l4.toInt → l4.toInt ≤ 13 → FX KQ h hx → fin = f_J7_fill_d0a16_at532_ n 6 l1 l3.toInt l4.toInt (st hx) → (3 * (13 - l3.toInt) + 2 : Int) < n → Go l RJ7 cJ7_fill_d0a16 5 (g_rm (d + 1) 0 0) "fill" none 117 0 0 (fun _ _ => True) (fun r h' => r = none ∧ Iv P h' ∧ (st h' = f_J7_fill_d0a16_at532 (st h) a2) ∧ (FX KQ h h')) 0 6 [(0, .ref 53), (1, .long l1), (3, .int l3), (4, .int l4)] [] hx) := by
    intro n
    induction n with
    | zero => exact (by intros; omega)
    | succ n ih =>
      refine ?_
      ·
        intro l1 l3 l4 hx hvx l3l l3u l4l l4u fxx kL hm
        rw [f_J7_fill_d0a16_at532_] at kL
        refine go_iload_n (pc := 6) rfl dJ7_fill_d0a16_6 ?_
        refine go_iload (pc := 7) rfl dJ7_fill_d0a16_7 ?_
        refine gf_icmp_ge (pc := 9) (tgt := 22) (ti_rfl l3) (ti_rfl l4) (by decide) dJ7_fill_d0a16_9 (fun q1 => ?_) (fun q1 => ?_)
        ·
          have k2 := if_t kL q1
          exact gi_vret (pc := 22) ⟨rfl, hvx, (k2.symm.trans kf), fxx⟩ hvx dJ7_fill_d0a16_22
        ·
          have k3 := if_f kL (Int.not_le.mpr q1)
          refine go_aload_n (pc := 12) rfl dJ7_fill_d0a16_12 ?_
          refine go_iload_n (pc := 13) rfl dJ7_fill_d0a16_13 ?_
          refine go_lload_n (pc := 14) rfl dJ7_fill_d0a16_14 ?_
          refine gi_last (pc := 15) (len := 13) hvx (ti_rfl l3) rfl (by omega) (by omega) dJ7_fill_d0a16_15 (fun h4 hv4 hv4e => ?_)
          have fx4 : FX KQ h h4 := FX.pL fxx hv4e (by unfold KQ; omega)
          have k5 := bd_e k3 (st_L hv4e)
          refine gf_iinc (pc := 16) (Nat.le_of_ble_eq_true rfl) rfl (ti_rfl l3) (ti_c (by decide)) (by omega) (by omega) dJ7_fill_d0a16_16 (fun v6 e7 => ?_)
          refine go_lv (lv2 := [(0, .ref 53), (1, .long l1), (3, .int v6), (4, .int l4)]) rfl ?_
          refine go_goto (pc := 19) (tgt := 6) (by decide) dJ7_fill_d0a16_19 ?_
          have z8 : (v6 : Int32).toInt = (l3.toInt + 1) := e7
          exact go_lv rfl (ih l1 v6 l4 h4 hv4 (by omega) (by omega) (by omega) (by omega) fx4 (by rw [show (v6 : Int32).toInt = (l3.toInt + 1) from e7]; exact k5) (by omega))
  refine go_iconst (pc := 0) (v := 0) (by decide) dJ7_fill_d0a16_0 ?_
  refine go_istore_n (pc := 1) (Nat.le_of_ble_eq_true rfl) dJ7_fill_d0a16_1 (go_lv (lv2 := [(0, .ref 53), (1, .long a2), (3, .int 0)]) rfl ?_)
  refine go_aload_n (pc := 2) rfl dJ7_fill_d0a16_2 ?_
  refine go_alen (pc := 3) (v := 13) (hv.sh rfl) (by decide) (by decide) dJ7_fill_d0a16_3 ?_
  refine go_istore (pc := 4) (Nat.le_of_ble_eq_true rfl) dJ7_fill_d0a16_4 (go_lv (lv2 := [(0, .ref 53), (1, .long a2), (3, .int 0), (4, .int 13)]) rfl ?_)
  have z9 : (0 : Int32).toInt = 0 := (ti_c (v := 0) (a := 0) (by decide))
  have z10 : (13 : Int32).toInt = 13 := (ti_c (v := 13) (a := 13) (by decide))
  exact go_lv rfl ((key 58) a2 0 13 h hv (by omega) (by omega) (by omega) (by omega) fx (by rw [show (0 : Int32).toInt = 0 from (ti_c (v := 0) (a := 0) (by decide)), show (13 : Int32).toInt = 13 from (ti_c (v := 13) (a := 13) (by decide))]; exact k0) (by omega))
noncomputable def f_J7_fill_d0a16_at582_ : Nat → Nat → Int64 → Int → Int → ST → ST
  | 0, _, _, _, _, sx => sx
  | n + 1, _, l1, l3, l4, sx => if l4 ≤ l3 then (sx) else (bd (sL sx 58 (l3).toNat l1) fun s4 => f_J7_fill_d0a16_at582_ n 6 l1 ((l3 + 1)) l4 s4)
noncomputable def f_J7_fill_d0a16_at582 (s : ST) (a2 : Int64) : ST :=
  f_J7_fill_d0a16_at582_ (BG 22834) 6 a2 0 7605 s
set_option maxHeartbeats 4000000 in
set_option maxRecDepth 100000 in
theorem s_J7_fill_d0a16_at582_f (l : Launch) (d : Nat) {P : PP} {h : HP} (hv : Iv P h) (a2 : Int64) : Mt l yJ7_fill_d0a16 cJ7_fill_d0a16 5 none (d + 1) [.ref 58, .long a2] h 0 0 (fun r h' => r = none ∧ Iv P h' ∧ (st h' = f_J7_fill_d0a16_at582 (st h) a2) ∧ (FX KAc h h')) := by
  refine Mt_iv hv (by decide) (Nat.le_of_ble_eq_true rfl) ?_
  show Go l RJ7 cJ7_fill_d0a16 5 (g_rm (d + 1) 0 0) "fill" none 117 0 0 (fun _ _ => True) (fun r h' => r = none ∧ Iv P h' ∧ (st h' = f_J7_fill_d0a16_at582 (st h) a2) ∧ (FX KAc h h')) 0 0 [(0, .ref 58), (1, .long a2)] [] h
  have fx : FX KAc h h := FX.rfl
  obtain ⟨fin, kf⟩ : ∃ z, z = f_J7_fill_d0a16_at582 (st h) a2 := ⟨_, _root_.rfl⟩
  have k0 := kf
  unfold f_J7_fill_d0a16_at582 at k0
  have key : ∀ n : Nat, (∀ (l1 : Int64) (l3 : Int32) (l4 : Int32) (hx : HP), Iv P hx → 0 ≤ l3.toInt → l3.toInt ≤ 7605 → 7605 ≤ l4.toInt → l4.toInt ≤ 7605 → FX KAc h hx → fin = f_J7_fill_d0a16_at582_ n 6 l1 l3.toInt l4.toInt (st hx) → (3 * (7605 - l3.toInt) + 2 : Int) < n → Go l RJ7 cJ7_fill_d0a16 5 (g_rm (d + 1) 0 0) "fill" none 117 0 0 (fun _ _ => True) (fun r h' => r = none ∧ Iv P h' ∧ (st h' = f_J7_fill_d0a16_at582 (st h) a2) ∧ (FX KAc h h')) 0 6 [(0, .ref 58), (1, .long l1), (3, .int l3), (4, .int l4)] [] hx) := by
    intro n
    induction n with
    | zero => exact (by intros; omega)
    | succ n ih =>
      refine ?_
      ·
        intro l1 l3 l4 hx hvx l3l l3u l4l l4u fxx kL hm
        rw [f_J7_fill_d0a16_at582_] at kL
        refine go_iload_n (pc := 6) rfl dJ7_fill_d0a16_6 ?_
        refine go_iload (pc := 7) rfl dJ7_fill_d0a16_7 ?_
        refine gf_icmp_ge (pc := 9) (tgt := 22) (ti_rfl l3) (ti_rfl l4) (by decide) dJ7_fill_d0a16_9 (fun q1 => ?_) (fun q1 => ?_)
        ·
          have k2 := if_t kL q1
          exact gi_vret (pc := 22) ⟨rfl, hvx, (k2.symm.trans kf), fxx⟩ hvx dJ7_fill_d0a16_22
        ·
          have k3 := if_f kL (Int.not_le.mpr q1)
          refine go_aload_n (pc := 12) rfl dJ7_fill_d0a16_12 ?_
          refine go_iload_n (pc := 13) rfl dJ7_fill_d0a16_13 ?_
          refine go_lload_n (pc := 14) rfl dJ7_fill_d0a16_14 ?_
          refine gi_last (pc := 15) (len := 7605) hvx (ti_rfl l3) rfl (by omega) (by omega) dJ7_fill_d0a16_15 (fun h4 hv4 hv4e => ?_)
          have fx4 : FX KAc h h4 := FX.pL fxx hv4e (by unfold KAc; omega)
          have k5 := bd_e k3 (st_L hv4e)
          refine gf_iinc (pc := 16) (Nat.le_of_ble_eq_true rfl) rfl (ti_rfl l3) (ti_c (by decide)) (by omega) (by omega) dJ7_fill_d0a16_16 (fun v6 e7 => ?_)
          refine go_lv (lv2 := [(0, .ref 58), (1, .long l1), (3, .int v6), (4, .int l4)]) rfl ?_
          refine go_goto (pc := 19) (tgt := 6) (by decide) dJ7_fill_d0a16_19 ?_
          have z8 : (v6 : Int32).toInt = (l3.toInt + 1) := e7
          exact go_lv rfl (ih l1 v6 l4 h4 hv4 (by omega) (by omega) (by omega) (by omega) fx4 (by rw [show (v6 : Int32).toInt = (l3.toInt + 1) from e7]; exact k5) (by omega))
  have bgN : 22834 ≤ BG 22834 := BG_le _
  refine go_iconst (pc := 0) (v := 0) (by decide) dJ7_fill_d0a16_0 ?_
  refine go_istore_n (pc := 1) (Nat.le_of_ble_eq_true rfl) dJ7_fill_d0a16_1 (go_lv (lv2 := [(0, .ref 58), (1, .long a2), (3, .int 0)]) rfl ?_)
  refine go_aload_n (pc := 2) rfl dJ7_fill_d0a16_2 ?_
  refine go_alen (pc := 3) (v := 7605) (hv.sh rfl) (by decide) (by decide) dJ7_fill_d0a16_3 ?_
  refine go_istore (pc := 4) (Nat.le_of_ble_eq_true rfl) dJ7_fill_d0a16_4 (go_lv (lv2 := [(0, .ref 58), (1, .long a2), (3, .int 0), (4, .int 7605)]) rfl ?_)
  have z9 : (0 : Int32).toInt = 0 := (ti_c (v := 0) (a := 0) (by decide))
  have z10 : (7605 : Int32).toInt = 7605 := (ti_c (v := 7605) (a := 7605) (by decide))
  exact go_lv rfl ((key (BG 22834)) a2 0 7605 h hv (by omega) (by omega) (by omega) (by omega) fx (by rw [show (0 : Int32).toInt = 0 from (ti_c (v := 0) (a := 0) (by decide)), show (7605 : Int32).toInt = 7605 from (ti_c (v := 7605) (a := 7605) (by decide))]; exact k0) (by omega))
def f_J7_fill_d0a16_at592_ : Nat → Nat → Int64 → Int → Int → ST → ST
  | 0, _, _, _, _, sx => sx
  | n + 1, _, l1, l3, l4, sx => if l4 ≤ l3 then (sx) else (bd (sL sx 59 (l3).toNat l1) fun s4 => f_J7_fill_d0a16_at592_ n 6 l1 ((l3 + 1)) l4 s4)
def f_J7_fill_d0a16_at592 (s : ST) (a2 : Int64) : ST :=
  f_J7_fill_d0a16_at592_ 139 6 a2 0 40 s
set_option maxHeartbeats 4000000 in
set_option maxRecDepth 100000 in
theorem s_J7_fill_d0a16_at592_f (l : Launch) (d : Nat) {P : PP} {h : HP} (hv : Iv P h) (a2 : Int64) : Mt l yJ7_fill_d0a16 cJ7_fill_d0a16 5 none (d + 1) [.ref 59, .long a2] h 0 0 (fun r h' => r = none ∧ Iv P h' ∧ (st h' = f_J7_fill_d0a16_at592 (st h) a2) ∧ (FX KAc h h')) := by
  refine Mt_iv hv (by decide) (Nat.le_of_ble_eq_true rfl) ?_
  show Go l RJ7 cJ7_fill_d0a16 5 (g_rm (d + 1) 0 0) "fill" none 117 0 0 (fun _ _ => True) (fun r h' => r = none ∧ Iv P h' ∧ (st h' = f_J7_fill_d0a16_at592 (st h) a2) ∧ (FX KAc h h')) 0 0 [(0, .ref 59), (1, .long a2)] [] h
  have fx : FX KAc h h := FX.rfl
  obtain ⟨fin, kf⟩ : ∃ z, z = f_J7_fill_d0a16_at592 (st h) a2 := ⟨_, _root_.rfl⟩
  have k0 := kf
  unfold f_J7_fill_d0a16_at592 at k0
  have key : ∀ n : Nat, (∀ (l1 : Int64) (l3 : Int32) (l4 : Int32) (hx : HP), Iv P hx → 0 ≤ l3.toInt → l3.toInt ≤ 40 → 40 ≤ l4.toInt → l4.toInt ≤ 40 → FX KAc h hx → fin = f_J7_fill_d0a16_at592_ n 6 l1 l3.toInt l4.toInt (st hx) → (3 * (40 - l3.toInt) + 2 : Int) < n → Go l RJ7 cJ7_fill_d0a16 5 (g_rm (d + 1) 0 0) "fill" none 117 0 0 (fun _ _ => True) (fun r h' => r = none ∧ Iv P h' ∧ (st h' = f_J7_fill_d0a16_at592 (st h) a2) ∧ (FX KAc h h')) 0 6 [(0, .ref 59), (1, .long l1), (3, .int l3), (4, .int l4)] [] hx) := by
    intro n
    induction n with
    | zero => exact (by intros; omega)
    | succ n ih =>
      refine ?_
      ·
        intro l1 l3 l4 hx hvx l3l l3u l4l l4u fxx kL hm
        rw [f_J7_fill_d0a16_at592_] at kL
        refine go_iload_n (pc := 6) rfl dJ7_fill_d0a16_6 ?_
        refine go_iload (pc := 7) rfl dJ7_fill_d0a16_7 ?_
        refine gf_icmp_ge (pc := 9) (tgt := 22) (ti_rfl l3) (ti_rfl l4) (by decide) dJ7_fill_d0a16_9 (fun q1 => ?_) (fun q1 => ?_)
        ·
          have k2 := if_t kL q1
          exact gi_vret (pc := 22) ⟨rfl, hvx, (k2.symm.trans kf), fxx⟩ hvx dJ7_fill_d0a16_22
        ·
          have k3 := if_f kL (Int.not_le.mpr q1)
          refine go_aload_n (pc := 12) rfl dJ7_fill_d0a16_12 ?_
          refine go_iload_n (pc := 13) rfl dJ7_fill_d0a16_13 ?_
          refine go_lload_n (pc := 14) rfl dJ7_fill_d0a16_14 ?_
          refine gi_last (pc := 15) (len := 40) hvx (ti_rfl l3) rfl (by omega) (by omega) dJ7_fill_d0a16_15 (fun h4 hv4 hv4e => ?_)
          have fx4 : FX KAc h h4 := FX.pL fxx hv4e (by unfold KAc; omega)
          have k5 := bd_e k3 (st_L hv4e)
          refine gf_iinc (pc := 16) (Nat.le_of_ble_eq_true rfl) rfl (ti_rfl l3) (ti_c (by decide)) (by omega) (by omega) dJ7_fill_d0a16_16 (fun v6 e7 => ?_)
          refine go_lv (lv2 := [(0, .ref 59), (1, .long l1), (3, .int v6), (4, .int l4)]) rfl ?_
          refine go_goto (pc := 19) (tgt := 6) (by decide) dJ7_fill_d0a16_19 ?_
          have z8 : (v6 : Int32).toInt = (l3.toInt + 1) := e7
          exact go_lv rfl (ih l1 v6 l4 h4 hv4 (by omega) (by omega) (by omega) (by omega) fx4 (by rw [show (v6 : Int32).toInt = (l3.toInt + 1) from e7]; exact k5) (by omega))
  refine go_iconst (pc := 0) (v := 0) (by decide) dJ7_fill_d0a16_0 ?_
  refine go_istore_n (pc := 1) (Nat.le_of_ble_eq_true rfl) dJ7_fill_d0a16_1 (go_lv (lv2 := [(0, .ref 59), (1, .long a2), (3, .int 0)]) rfl ?_)
  refine go_aload_n (pc := 2) rfl dJ7_fill_d0a16_2 ?_
  refine go_alen (pc := 3) (v := 40) (hv.sh rfl) (by decide) (by decide) dJ7_fill_d0a16_3 ?_
  refine go_istore (pc := 4) (Nat.le_of_ble_eq_true rfl) dJ7_fill_d0a16_4 (go_lv (lv2 := [(0, .ref 59), (1, .long a2), (3, .int 0), (4, .int 40)]) rfl ?_)
  have z9 : (0 : Int32).toInt = 0 := (ti_c (v := 0) (a := 0) (by decide))
  have z10 : (40 : Int32).toInt = 40 := (ti_c (v := 40) (a := 40) (by decide))
  exact go_lv rfl ((key 139) a2 0 40 h hv (by omega) (by omega) (by omega) (by omega) fx (by rw [show (0 : Int32).toInt = 0 from (ti_c (v := 0) (a := 0) (by decide)), show (40 : Int32).toInt = 40 from (ti_c (v := 40) (a := 40) (by decide))]; exact k0) (by omega))
def f_J7_fill_d0a16_at602_ : Nat → Nat → Int64 → Int → Int → ST → ST
  | 0, _, _, _, _, sx => sx
  | n + 1, _, l1, l3, l4, sx => if l4 ≤ l3 then (sx) else (bd (sL sx 60 (l3).toNat l1) fun s4 => f_J7_fill_d0a16_at602_ n 6 l1 ((l3 + 1)) l4 s4)
def f_J7_fill_d0a16_at602 (s : ST) (a2 : Int64) : ST :=
  f_J7_fill_d0a16_at602_ 139 6 a2 0 40 s
set_option maxHeartbeats 4000000 in
set_option maxRecDepth 100000 in
theorem s_J7_fill_d0a16_at602_f (l : Launch) (d : Nat) {P : PP} {h : HP} (hv : Iv P h) (a2 : Int64) : Mt l yJ7_fill_d0a16 cJ7_fill_d0a16 5 none (d + 1) [.ref 60, .long a2] h 0 0 (fun r h' => r = none ∧ Iv P h' ∧ (st h' = f_J7_fill_d0a16_at602 (st h) a2) ∧ (FX KAc h h')) := by
  refine Mt_iv hv (by decide) (Nat.le_of_ble_eq_true rfl) ?_
  show Go l RJ7 cJ7_fill_d0a16 5 (g_rm (d + 1) 0 0) "fill" none 117 0 0 (fun _ _ => True) (fun r h' => r = none ∧ Iv P h' ∧ (st h' = f_J7_fill_d0a16_at602 (st h) a2) ∧ (FX KAc h h')) 0 0 [(0, .ref 60), (1, .long a2)] [] h
  have fx : FX KAc h h := FX.rfl
  obtain ⟨fin, kf⟩ : ∃ z, z = f_J7_fill_d0a16_at602 (st h) a2 := ⟨_, _root_.rfl⟩
  have k0 := kf
  unfold f_J7_fill_d0a16_at602 at k0
  have key : ∀ n : Nat, (∀ (l1 : Int64) (l3 : Int32) (l4 : Int32) (hx : HP), Iv P hx → 0 ≤ l3.toInt → l3.toInt ≤ 40 → 40 ≤ l4.toInt → l4.toInt ≤ 40 → FX KAc h hx → fin = f_J7_fill_d0a16_at602_ n 6 l1 l3.toInt l4.toInt (st hx) → (3 * (40 - l3.toInt) + 2 : Int) < n → Go l RJ7 cJ7_fill_d0a16 5 (g_rm (d + 1) 0 0) "fill" none 117 0 0 (fun _ _ => True) (fun r h' => r = none ∧ Iv P h' ∧ (st h' = f_J7_fill_d0a16_at602 (st h) a2) ∧ (FX KAc h h')) 0 6 [(0, .ref 60), (1, .long l1), (3, .int l3), (4, .int l4)] [] hx) := by
    intro n
    induction n with
    | zero => exact (by intros; omega)
    | succ n ih =>
      refine ?_
      ·
        intro l1 l3 l4 hx hvx l3l l3u l4l l4u fxx kL hm
        rw [f_J7_fill_d0a16_at602_] at kL
        refine go_iload_n (pc := 6) rfl dJ7_fill_d0a16_6 ?_
        refine go_iload (pc := 7) rfl dJ7_fill_d0a16_7 ?_
        refine gf_icmp_ge (pc := 9) (tgt := 22) (ti_rfl l3) (ti_rfl l4) (by decide) dJ7_fill_d0a16_9 (fun q1 => ?_) (fun q1 => ?_)
        ·
          have k2 := if_t kL q1
          exact gi_vret (pc := 22) ⟨rfl, hvx, (k2.symm.trans kf), fxx⟩ hvx dJ7_fill_d0a16_22
        ·
          have k3 := if_f kL (Int.not_le.mpr q1)
          refine go_aload_n (pc := 12) rfl dJ7_fill_d0a16_12 ?_
          refine go_iload_n (pc := 13) rfl dJ7_fill_d0a16_13 ?_
          refine go_lload_n (pc := 14) rfl dJ7_fill_d0a16_14 ?_
          refine gi_last (pc := 15) (len := 40) hvx (ti_rfl l3) rfl (by omega) (by omega) dJ7_fill_d0a16_15 (fun h4 hv4 hv4e => ?_)
          have fx4 : FX KAc h h4 := FX.pL fxx hv4e (by unfold KAc; omega)
          have k5 := bd_e k3 (st_L hv4e)
          refine gf_iinc (pc := 16) (Nat.le_of_ble_eq_true rfl) rfl (ti_rfl l3) (ti_c (by decide)) (by omega) (by omega) dJ7_fill_d0a16_16 (fun v6 e7 => ?_)
          refine go_lv (lv2 := [(0, .ref 60), (1, .long l1), (3, .int v6), (4, .int l4)]) rfl ?_
          refine go_goto (pc := 19) (tgt := 6) (by decide) dJ7_fill_d0a16_19 ?_
          have z8 : (v6 : Int32).toInt = (l3.toInt + 1) := e7
          exact go_lv rfl (ih l1 v6 l4 h4 hv4 (by omega) (by omega) (by omega) (by omega) fx4 (by rw [show (v6 : Int32).toInt = (l3.toInt + 1) from e7]; exact k5) (by omega))
  refine go_iconst (pc := 0) (v := 0) (by decide) dJ7_fill_d0a16_0 ?_
  refine go_istore_n (pc := 1) (Nat.le_of_ble_eq_true rfl) dJ7_fill_d0a16_1 (go_lv (lv2 := [(0, .ref 60), (1, .long a2), (3, .int 0)]) rfl ?_)
  refine go_aload_n (pc := 2) rfl dJ7_fill_d0a16_2 ?_
  refine go_alen (pc := 3) (v := 40) (hv.sh rfl) (by decide) (by decide) dJ7_fill_d0a16_3 ?_
  refine go_istore (pc := 4) (Nat.le_of_ble_eq_true rfl) dJ7_fill_d0a16_4 (go_lv (lv2 := [(0, .ref 60), (1, .long a2), (3, .int 0), (4, .int 40)]) rfl ?_)
  have z9 : (0 : Int32).toInt = 0 := (ti_c (v := 0) (a := 0) (by decide))
  have z10 : (40 : Int32).toInt = 40 := (ti_c (v := 40) (a := 40) (by decide))
  exact go_lv rfl ((key 139) a2 0 40 h hv (by omega) (by omega) (by omega) (by omega) fx (by rw [show (0 : Int32).toInt = 0 from (ti_c (v := 0) (a := 0) (by decide)), show (40 : Int32).toInt = 40 from (ti_c (v := 40) (a := 40) (by decide))]; exact k0) (by omega))
def f_J7_fill_d0a16_at622_ : Nat → Nat → Int64 → Int → Int → ST → ST
  | 0, _, _, _, _, sx => sx
  | n + 1, _, l1, l3, l4, sx => if l4 ≤ l3 then (sx) else (bd (sL sx 62 (l3).toNat l1) fun s4 => f_J7_fill_d0a16_at622_ n 6 l1 ((l3 + 1)) l4 s4)
def f_J7_fill_d0a16_at622 (s : ST) (a2 : Int64) : ST :=
  f_J7_fill_d0a16_at622_ 154 6 a2 0 45 s
set_option maxHeartbeats 4000000 in
set_option maxRecDepth 100000 in
theorem s_J7_fill_d0a16_at622_f (l : Launch) (d : Nat) {P : PP} {h : HP} (hv : Iv P h) (a2 : Int64) : Mt l yJ7_fill_d0a16 cJ7_fill_d0a16 5 none (d + 1) [.ref 62, .long a2] h 0 0 (fun r h' => r = none ∧ Iv P h' ∧ (st h' = f_J7_fill_d0a16_at622 (st h) a2) ∧ (FX KAc h h')) := by
  refine Mt_iv hv (by decide) (Nat.le_of_ble_eq_true rfl) ?_
  show Go l RJ7 cJ7_fill_d0a16 5 (g_rm (d + 1) 0 0) "fill" none 117 0 0 (fun _ _ => True) (fun r h' => r = none ∧ Iv P h' ∧ (st h' = f_J7_fill_d0a16_at622 (st h) a2) ∧ (FX KAc h h')) 0 0 [(0, .ref 62), (1, .long a2)] [] h
  have fx : FX KAc h h := FX.rfl
  obtain ⟨fin, kf⟩ : ∃ z, z = f_J7_fill_d0a16_at622 (st h) a2 := ⟨_, _root_.rfl⟩
  have k0 := kf
  unfold f_J7_fill_d0a16_at622 at k0
  have key : ∀ n : Nat, (∀ (l1 : Int64) (l3 : Int32) (l4 : Int32) (hx : HP), Iv P hx → 0 ≤ l3.toInt → l3.toInt ≤ 45 → 45 ≤ l4.toInt → l4.toInt ≤ 45 → FX KAc h hx → fin = f_J7_fill_d0a16_at622_ n 6 l1 l3.toInt l4.toInt (st hx) → (3 * (45 - l3.toInt) + 2 : Int) < n → Go l RJ7 cJ7_fill_d0a16 5 (g_rm (d + 1) 0 0) "fill" none 117 0 0 (fun _ _ => True) (fun r h' => r = none ∧ Iv P h' ∧ (st h' = f_J7_fill_d0a16_at622 (st h) a2) ∧ (FX KAc h h')) 0 6 [(0, .ref 62), (1, .long l1), (3, .int l3), (4, .int l4)] [] hx) := by
    intro n
    induction n with
    | zero => exact (by intros; omega)
    | succ n ih =>
      refine ?_
      ·
        intro l1 l3 l4 hx hvx l3l l3u l4l l4u fxx kL hm
        rw [f_J7_fill_d0a16_at622_] at kL
        refine go_iload_n (pc := 6) rfl dJ7_fill_d0a16_6 ?_
        refine go_iload (pc := 7) rfl dJ7_fill_d0a16_7 ?_
        refine gf_icmp_ge (pc := 9) (tgt := 22) (ti_rfl l3) (ti_rfl l4) (by decide) dJ7_fill_d0a16_9 (fun q1 => ?_) (fun q1 => ?_)
        ·
          have k2 := if_t kL q1
          exact gi_vret (pc := 22) ⟨rfl, hvx, (k2.symm.trans kf), fxx⟩ hvx dJ7_fill_d0a16_22
        ·
          have k3 := if_f kL (Int.not_le.mpr q1)
          refine go_aload_n (pc := 12) rfl dJ7_fill_d0a16_12 ?_
          refine go_iload_n (pc := 13) rfl dJ7_fill_d0a16_13 ?_
          refine go_lload_n (pc := 14) rfl dJ7_fill_d0a16_14 ?_
          refine gi_last (pc := 15) (len := 45) hvx (ti_rfl l3) rfl (by omega) (by omega) dJ7_fill_d0a16_15 (fun h4 hv4 hv4e => ?_)
          have fx4 : FX KAc h h4 := FX.pL fxx hv4e (by unfold KAc; omega)
          have k5 := bd_e k3 (st_L hv4e)
          refine gf_iinc (pc := 16) (Nat.le_of_ble_eq_true rfl) rfl (ti_rfl l3) (ti_c (by decide)) (by omega) (by omega) dJ7_fill_d0a16_16 (fun v6 e7 => ?_)
          refine go_lv (lv2 := [(0, .ref 62), (1, .long l1), (3, .int v6), (4, .int l4)]) rfl ?_
          refine go_goto (pc := 19) (tgt := 6) (by decide) dJ7_fill_d0a16_19 ?_
          have z8 : (v6 : Int32).toInt = (l3.toInt + 1) := e7
          exact go_lv rfl (ih l1 v6 l4 h4 hv4 (by omega) (by omega) (by omega) (by omega) fx4 (by rw [show (v6 : Int32).toInt = (l3.toInt + 1) from e7]; exact k5) (by omega))
  refine go_iconst (pc := 0) (v := 0) (by decide) dJ7_fill_d0a16_0 ?_
  refine go_istore_n (pc := 1) (Nat.le_of_ble_eq_true rfl) dJ7_fill_d0a16_1 (go_lv (lv2 := [(0, .ref 62), (1, .long a2), (3, .int 0)]) rfl ?_)
  refine go_aload_n (pc := 2) rfl dJ7_fill_d0a16_2 ?_
  refine go_alen (pc := 3) (v := 45) (hv.sh rfl) (by decide) (by decide) dJ7_fill_d0a16_3 ?_
  refine go_istore (pc := 4) (Nat.le_of_ble_eq_true rfl) dJ7_fill_d0a16_4 (go_lv (lv2 := [(0, .ref 62), (1, .long a2), (3, .int 0), (4, .int 45)]) rfl ?_)
  have z9 : (0 : Int32).toInt = 0 := (ti_c (v := 0) (a := 0) (by decide))
  have z10 : (45 : Int32).toInt = 45 := (ti_c (v := 45) (a := 45) (by decide))
  exact go_lv rfl ((key 154) a2 0 45 h hv (by omega) (by omega) (by omega) (by omega) fx (by rw [show (0 : Int32).toInt = 0 from (ti_c (v := 0) (a := 0) (by decide)), show (45 : Int32).toInt = 45 from (ti_c (v := 45) (a := 45) (by decide))]; exact k0) (by omega))
def f_X7_portOfField2 (s : ST) (a1 : Int) : Int :=
  ((a1 - 6) + 2)
set_option maxHeartbeats 4000000 in
set_option maxRecDepth 100000 in
theorem s_X7_portOfField2_f (l : Launch) (d : Nat) {P : PP} {h : HP} (hv : Iv P h) (a1 : Int32) (a1l : 6 ≤ a1.toInt) (a1u : a1.toInt ≤ 9) : Mt l yX7_portOfField cX7_portOfField 1 (some .int) (d + 1) [.int a1] h 0 0 (fun r h' => ∃ v : Int32, r = some (.int v) ∧ 2 ≤ v.toInt ∧ v.toInt ≤ 5 ∧ h = h' ∧ (v.toInt = f_X7_portOfField2 (st h) a1.toInt)) := by
  refine Mt_iv hv (by decide) (Nat.le_of_ble_eq_true rfl) ?_
  show Go l RX7 cX7_portOfField 1 (g_rm (d + 1) 0 0) "portOfField" (some .int) 117 0 0 (fun _ _ => True) (fun r h' => ∃ v : Int32, r = some (.int v) ∧ 2 ≤ v.toInt ∧ v.toInt ≤ 5 ∧ h = h' ∧ (v.toInt = f_X7_portOfField2 (st h) a1.toInt)) 0 0 [(0, .int a1)] [] h
  obtain ⟨fin, kf⟩ : ∃ z, z = f_X7_portOfField2 (st h) a1.toInt := ⟨_, _root_.rfl⟩
  have k0 := kf
  unfold f_X7_portOfField2 at k0
  refine go_iload_n (pc := 0) rfl dX7_portOfField_0 ?_
  refine go_bipush (pc := 1) (v := 6) (by decide) dX7_portOfField_1 ?_
  refine gf_isub (pc := 3) (ti_rfl a1) (ti_c (v := 6) (a := 6) (by decide)) (by omega) (by omega) dX7_portOfField_3 (fun v1 e2 => ?_)
  refine go_iconst (pc := 4) (v := 2) (by decide) dX7_portOfField_4 ?_
  refine gf_iadd (pc := 5) e2 (ti_c (v := 2) (a := 2) (by decide)) (by omega) (by omega) dX7_portOfField_5 (fun v3 e4 => ?_)
  exact gi_iret (pc := 6) e4 ⟨_, rfl, (by rw [show (v3 : Int32).toInt = ((a1.toInt - 6) + 2) from e4]; omega), (by rw [show (v3 : Int32).toInt = ((a1.toInt - 6) + 2) from e4]; omega), rfl, (by rw [show (v3 : Int32).toInt = ((a1.toInt - 6) + 2) from e4]; exact k0.symm.trans kf)⟩ hv dX7_portOfField_6
def f_X0_tellsStraight2 (s : ST) (c1 : Nat) (a2 : Int) (a3 : Int) : Int :=
  bd (s.1 (c1 + 2) (a2).toNat) fun v1 => if ¬ v1 = 1 then (bd (s.1 (c1 + 6) (a2).toNat) fun v5 => if ¬ v5 = a3 then (0) else (1)) else (bd (f_X7_isField s a3) fun v14 => if v14 = 0 then (bd (s.1 (c1 + 6) (a2).toNat) fun v19 => if ¬ v19 = a3 then (0) else (1)) else (1))
set_option maxHeartbeats 4000000 in
set_option maxRecDepth 100000 in
theorem s_X0_tellsStraight2_f (l : Launch) (d : Nat) {P : PP} {h : HP} (hv : Iv P h) (c1 : Nat) (hc1 : c1 = 2 ∨ c1 = 18) (a2 : Int32) (a2l : 0 ≤ a2.toInt) (a2u : a2.toInt ≤ 39) (a3 : Int32) : Mt l yX0_tellsStraight cX0_tellsStraight 3 (some .boolean) (d + 2) [.ref c1, .int a2, .int a3] h 0 0 (fun r h' => ∃ v : Int32, r = some (.int v) ∧ 0 ≤ v.toInt ∧ v.toInt ≤ 1 ∧ h = h' ∧ (v.toInt = f_X0_tellsStraight2 (st h) c1 a2.toInt a3.toInt)) := by
  refine Mt_iv hv (by decide) (Nat.le_of_ble_eq_true rfl) ?_
  show Go l RX0 cX0_tellsStraight 3 (g_rm (d + 2) 0 0) "tellsStraight" (some .boolean) 117 0 0 (fun _ _ => True) (fun r h' => ∃ v : Int32, r = some (.int v) ∧ 0 ≤ v.toInt ∧ v.toInt ≤ 1 ∧ h = h' ∧ (v.toInt = f_X0_tellsStraight2 (st h) c1 a2.toInt a3.toInt)) 0 0 [(0, .ref c1), (1, .int a2), (2, .int a3)] [] h
  obtain ⟨fin, kf⟩ : ∃ z, z = f_X0_tellsStraight2 (st h) c1 a2.toInt a3.toInt := ⟨_, _root_.rfl⟩
  have k0 := kf
  unfold f_X0_tellsStraight2 at k0
  refine go_aload_n (pc := 0) rfl dX0_tellsStraight_0 ?_
  refine gi_getF (pc := 1) (q := c1 + 2) hv fL_X0_32 (by rcases hc1 with rfl | rfl <;> rfl) (Nat.le_of_ble_eq_true rfl) rfl (by rcases hc1 with rfl | rfl <;> exact hv.rf (by decide)) dX0_tellsStraight_1 ?_
  refine go_iload_n (pc := 4) rfl dX0_tellsStraight_4 ?_
  refine gi_iald (pc := 5) (lo := 0) (hi := 5) (len := 40) hv (ti_rfl a2) (by rcases hc1 with rfl | rfl <;> rfl) (by omega) (by omega) (fun _ => by rcases hc1 with rfl | rfl <;> rfl) dX0_tellsStraight_5 (fun v1 v1l v1u v1w => ?_)
  have k2 := bd_e k0 (congrArg Int32.toInt v1w.symm)
  refine go_iconst (pc := 6) (v := 1) (by decide) dX0_tellsStraight_6 ?_
  refine gf_icmp_ne (pc := 7) (tgt := 19) (ti_rfl v1) (ti_c (v := 1) (a := 1) (by decide)) (by decide) dX0_tellsStraight_7 (fun q3 => ?_) (fun q3 => ?_)
  ·
    have k4 := if_t k2 q3
    refine go_aload_n (pc := 19) rfl dX0_tellsStraight_19 ?_
    refine gi_getF (pc := 20) (q := c1 + 6) hv fL_X0_44 (by rcases hc1 with rfl | rfl <;> rfl) (Nat.le_of_ble_eq_true rfl) rfl (by rcases hc1 with rfl | rfl <;> exact hv.rf (by decide)) dX0_tellsStraight_20 ?_
    refine go_iload_n (pc := 23) rfl dX0_tellsStraight_23 ?_
    refine gi_iald (pc := 24) (lo := -1) (hi := 9) (len := 40) hv (ti_rfl a2) (by rcases hc1 with rfl | rfl <;> rfl) (by omega) (by omega) (fun _ => by rcases hc1 with rfl | rfl <;> rfl) dX0_tellsStraight_24 (fun v5 v5l v5u v5w => ?_)
    have k6 := bd_e k4 (congrArg Int32.toInt v5w.symm)
    refine go_iload_n (pc := 25) rfl dX0_tellsStraight_25 ?_
    refine gf_icmp_ne (pc := 26) (tgt := 33) (ti_rfl v5) (ti_rfl a3) (by decide) dX0_tellsStraight_26 (fun q7 => ?_) (fun q7 => ?_)
    ·
      have k8 := if_t k6 q7
      refine go_iconst (pc := 33) (v := 0) (by decide) dX0_tellsStraight_33 ?_
      exact gi_zret (pc := 34) (ti_c (v := 0) (a := 0) (by decide)) (by omega) (by omega) ⟨_, rfl, (by rw [show (0 : Int32).toInt = 0 from (ti_c (v := 0) (a := 0) (by decide))]; omega), (by rw [show (0 : Int32).toInt = 0 from (ti_c (v := 0) (a := 0) (by decide))]; omega), rfl, (by rw [show (0 : Int32).toInt = 0 from (ti_c (v := 0) (a := 0) (by decide))]; exact k8.symm.trans kf)⟩ hv dX0_tellsStraight_34
    ·
      have k9 := if_f k6 (fun z => z q7)
      refine go_iconst (pc := 29) (v := 1) (by decide) dX0_tellsStraight_29 ?_
      refine go_goto (pc := 30) (tgt := 34) (by decide) dX0_tellsStraight_30 ?_
      exact gi_zret (pc := 34) (ti_c (v := 1) (a := 1) (by decide)) (by omega) (by omega) ⟨_, rfl, (by rw [show (1 : Int32).toInt = 1 from (ti_c (v := 1) (a := 1) (by decide))]; omega), (by rw [show (1 : Int32).toInt = 1 from (ti_c (v := 1) (a := 1) (by decide))]; omega), rfl, (by rw [show (1 : Int32).toInt = 1 from (ti_c (v := 1) (a := 1) (by decide))]; exact k9.symm.trans kf)⟩ hv dX0_tellsStraight_34
  ·
    have k10 := if_f k2 (fun z => z q3)
    refine go_iload_n (pc := 10) rfl dX0_tellsStraight_10 ?_
    refine go_invS (pc := 11) (sl := 0) (s_X7_isField_f l (d + 0) hv a3) mL_X0_78 iM_X7_isField rfl rfl (Nat.le_of_ble_eq_true rfl) (show d + 0 + 1 + 1 ≤ d + 2 by omega) (show 8 + (1 + 11) + 40 * (d + 0 + 1) ≤ 40 * (d + 2) by omega) (g_c0 hv.ln) (Nat.le_of_ble_eq_true rfl) dX0_tellsStraight_11 ?_
    intro r h11 hq _
    obtain ⟨v14, rfl, v14l, v14u, rfl, f15, f12, f13⟩ := hq
    replace f13 : PE _ _ := f13
    have k16 := bd_e k10 f13.symm
    refine gf_if_eq (pc := 14) (tgt := 19) (ti_rfl v14) (by decide) dX0_tellsStraight_14 (fun q17 => ?_) (fun q17 => ?_)
    ·
      have k18 := if_t k16 q17
      refine go_aload_n (pc := 19) rfl dX0_tellsStraight_19 ?_
      refine gi_getF (pc := 20) (q := c1 + 6) hv fL_X0_44 (by rcases hc1 with rfl | rfl <;> rfl) (Nat.le_of_ble_eq_true rfl) rfl (by rcases hc1 with rfl | rfl <;> exact hv.rf (by decide)) dX0_tellsStraight_20 ?_
      refine go_iload_n (pc := 23) rfl dX0_tellsStraight_23 ?_
      refine gi_iald (pc := 24) (lo := -1) (hi := 9) (len := 40) hv (ti_rfl a2) (by rcases hc1 with rfl | rfl <;> rfl) (by omega) (by omega) (fun _ => by rcases hc1 with rfl | rfl <;> rfl) dX0_tellsStraight_24 (fun v19 v19l v19u v19w => ?_)
      have k20 := bd_e k18 (congrArg Int32.toInt v19w.symm)
      refine go_iload_n (pc := 25) rfl dX0_tellsStraight_25 ?_
      refine gf_icmp_ne (pc := 26) (tgt := 33) (ti_rfl v19) (ti_rfl a3) (by decide) dX0_tellsStraight_26 (fun q21 => ?_) (fun q21 => ?_)
      ·
        have k22 := if_t k20 q21
        refine go_iconst (pc := 33) (v := 0) (by decide) dX0_tellsStraight_33 ?_
        exact gi_zret (pc := 34) (ti_c (v := 0) (a := 0) (by decide)) (by omega) (by omega) ⟨_, rfl, (by rw [show (0 : Int32).toInt = 0 from (ti_c (v := 0) (a := 0) (by decide))]; omega), (by rw [show (0 : Int32).toInt = 0 from (ti_c (v := 0) (a := 0) (by decide))]; omega), rfl, (by rw [show (0 : Int32).toInt = 0 from (ti_c (v := 0) (a := 0) (by decide))]; exact k22.symm.trans kf)⟩ hv dX0_tellsStraight_34
      ·
        have k23 := if_f k20 (fun z => z q21)
        refine go_iconst (pc := 29) (v := 1) (by decide) dX0_tellsStraight_29 ?_
        refine go_goto (pc := 30) (tgt := 34) (by decide) dX0_tellsStraight_30 ?_
        exact gi_zret (pc := 34) (ti_c (v := 1) (a := 1) (by decide)) (by omega) (by omega) ⟨_, rfl, (by rw [show (1 : Int32).toInt = 1 from (ti_c (v := 1) (a := 1) (by decide))]; omega), (by rw [show (1 : Int32).toInt = 1 from (ti_c (v := 1) (a := 1) (by decide))]; omega), rfl, (by rw [show (1 : Int32).toInt = 1 from (ti_c (v := 1) (a := 1) (by decide))]; exact k23.symm.trans kf)⟩ hv dX0_tellsStraight_34
    ·
      have k24 := if_f k16 q17
      refine go_iconst (pc := 17) (v := 1) (by decide) dX0_tellsStraight_17 ?_
      exact gi_zret (pc := 18) (ti_c (v := 1) (a := 1) (by decide)) (by omega) (by omega) ⟨_, rfl, (by rw [show (1 : Int32).toInt = 1 from (ti_c (v := 1) (a := 1) (by decide))]; omega), (by rw [show (1 : Int32).toInt = 1 from (ti_c (v := 1) (a := 1) (by decide))]; omega), rfl, (by rw [show (1 : Int32).toInt = 1 from (ti_c (v := 1) (a := 1) (by decide))]; exact k24.symm.trans kf)⟩ hv dX0_tellsStraight_18
def f_X0_tellsAside2 (s : ST) (c1 : Nat) (a2 : Int) (a3 : Int) : Int :=
  bd (s.1 (c1 + 2) (a2).toNat) fun v1 => if ¬ v1 = 1 then (bd (s.1 (c1 + 2) (a2).toNat) fun v5 => if ¬ v5 = 4 then (0) else (bd (s.1 (c1 + 14) (a2).toNat) fun v10 => if ¬ v10 = a3 then (0) else (1))) else (bd (f_X7_isField s a3) fun v19 => if ¬ v19 = 0 then (1) else (bd (s.1 (c1 + 14) (a2).toNat) fun v25 => if ¬ v25 = a3 then (0) else (1)))
set_option maxHeartbeats 4000000 in
set_option maxRecDepth 100000 in
theorem s_X0_tellsAside2_f (l : Launch) (d : Nat) {P : PP} {h : HP} (hv : Iv P h) (c1 : Nat) (hc1 : c1 = 2 ∨ c1 = 18) (a2 : Int32) (a2l : 0 ≤ a2.toInt) (a2u : a2.toInt ≤ 39) (a3 : Int32) : Mt l yX0_tellsAside cX0_tellsAside 3 (some .boolean) (d + 2) [.ref c1, .int a2, .int a3] h 0 0 (fun r h' => ∃ v : Int32, r = some (.int v) ∧ 0 ≤ v.toInt ∧ v.toInt ≤ 1 ∧ h = h' ∧ (v.toInt = f_X0_tellsAside2 (st h) c1 a2.toInt a3.toInt)) := by
  refine Mt_iv hv (by decide) (Nat.le_of_ble_eq_true rfl) ?_
  show Go l RX0 cX0_tellsAside 3 (g_rm (d + 2) 0 0) "tellsAside" (some .boolean) 117 0 0 (fun _ _ => True) (fun r h' => ∃ v : Int32, r = some (.int v) ∧ 0 ≤ v.toInt ∧ v.toInt ≤ 1 ∧ h = h' ∧ (v.toInt = f_X0_tellsAside2 (st h) c1 a2.toInt a3.toInt)) 0 0 [(0, .ref c1), (1, .int a2), (2, .int a3)] [] h
  obtain ⟨fin, kf⟩ : ∃ z, z = f_X0_tellsAside2 (st h) c1 a2.toInt a3.toInt := ⟨_, _root_.rfl⟩
  have k0 := kf
  unfold f_X0_tellsAside2 at k0
  refine go_aload_n (pc := 0) rfl dX0_tellsAside_0 ?_
  refine gi_getF (pc := 1) (q := c1 + 2) hv fL_X0_32 (by rcases hc1 with rfl | rfl <;> rfl) (Nat.le_of_ble_eq_true rfl) rfl (by rcases hc1 with rfl | rfl <;> exact hv.rf (by decide)) dX0_tellsAside_1 ?_
  refine go_iload_n (pc := 4) rfl dX0_tellsAside_4 ?_
  refine gi_iald (pc := 5) (lo := 0) (hi := 5) (len := 40) hv (ti_rfl a2) (by rcases hc1 with rfl | rfl <;> rfl) (by omega) (by omega) (fun _ => by rcases hc1 with rfl | rfl <;> rfl) dX0_tellsAside_5 (fun v1 v1l v1u v1w => ?_)
  have k2 := bd_e k0 (congrArg Int32.toInt v1w.symm)
  refine go_iconst (pc := 6) (v := 1) (by decide) dX0_tellsAside_6 ?_
  refine gf_icmp_ne (pc := 7) (tgt := 33) (ti_rfl v1) (ti_c (v := 1) (a := 1) (by decide)) (by decide) dX0_tellsAside_7 (fun q3 => ?_) (fun q3 => ?_)
  ·
    have k4 := if_t k2 q3
    refine go_aload_n (pc := 33) rfl dX0_tellsAside_33 ?_
    refine gi_getF (pc := 34) (q := c1 + 2) hv fL_X0_32 (by rcases hc1 with rfl | rfl <;> rfl) (Nat.le_of_ble_eq_true rfl) rfl (by rcases hc1 with rfl | rfl <;> exact hv.rf (by decide)) dX0_tellsAside_34 ?_
    refine go_iload_n (pc := 37) rfl dX0_tellsAside_37 ?_
    refine gi_iald (pc := 38) (lo := 0) (hi := 5) (len := 40) hv (ti_rfl a2) (by rcases hc1 with rfl | rfl <;> rfl) (by omega) (by omega) (fun _ => by rcases hc1 with rfl | rfl <;> rfl) dX0_tellsAside_38 (fun v5 v5l v5u v5w => ?_)
    have k6 := bd_e k4 (congrArg Int32.toInt v5w.symm)
    refine go_iconst (pc := 39) (v := 4) (by decide) dX0_tellsAside_39 ?_
    refine gf_icmp_ne (pc := 40) (tgt := 57) (ti_rfl v5) (ti_c (v := 4) (a := 4) (by decide)) (by decide) dX0_tellsAside_40 (fun q7 => ?_) (fun q7 => ?_)
    ·
      have k8 := if_t k6 q7
      refine go_iconst (pc := 57) (v := 0) (by decide) dX0_tellsAside_57 ?_
      exact gi_zret (pc := 58) (ti_c (v := 0) (a := 0) (by decide)) (by omega) (by omega) ⟨_, rfl, (by rw [show (0 : Int32).toInt = 0 from (ti_c (v := 0) (a := 0) (by decide))]; omega), (by rw [show (0 : Int32).toInt = 0 from (ti_c (v := 0) (a := 0) (by decide))]; omega), rfl, (by rw [show (0 : Int32).toInt = 0 from (ti_c (v := 0) (a := 0) (by decide))]; exact k8.symm.trans kf)⟩ hv dX0_tellsAside_58
    ·
      have k9 := if_f k6 (fun z => z q7)
      refine go_aload_n (pc := 43) rfl dX0_tellsAside_43 ?_
      refine gi_getF (pc := 44) (q := c1 + 14) hv fL_X0_68 (by rcases hc1 with rfl | rfl <;> rfl) (Nat.le_of_ble_eq_true rfl) rfl (by rcases hc1 with rfl | rfl <;> exact hv.rf (by decide)) dX0_tellsAside_44 ?_
      refine go_iload_n (pc := 47) rfl dX0_tellsAside_47 ?_
      refine gi_iald (pc := 48) (lo := -1) (hi := 5) (len := 40) hv (ti_rfl a2) (by rcases hc1 with rfl | rfl <;> rfl) (by omega) (by omega) (fun _ => by rcases hc1 with rfl | rfl <;> rfl) dX0_tellsAside_48 (fun v10 v10l v10u v10w => ?_)
      have k11 := bd_e k9 (congrArg Int32.toInt v10w.symm)
      refine go_iload_n (pc := 49) rfl dX0_tellsAside_49 ?_
      refine gf_icmp_ne (pc := 50) (tgt := 57) (ti_rfl v10) (ti_rfl a3) (by decide) dX0_tellsAside_50 (fun q12 => ?_) (fun q12 => ?_)
      ·
        have k13 := if_t k11 q12
        refine go_iconst (pc := 57) (v := 0) (by decide) dX0_tellsAside_57 ?_
        exact gi_zret (pc := 58) (ti_c (v := 0) (a := 0) (by decide)) (by omega) (by omega) ⟨_, rfl, (by rw [show (0 : Int32).toInt = 0 from (ti_c (v := 0) (a := 0) (by decide))]; omega), (by rw [show (0 : Int32).toInt = 0 from (ti_c (v := 0) (a := 0) (by decide))]; omega), rfl, (by rw [show (0 : Int32).toInt = 0 from (ti_c (v := 0) (a := 0) (by decide))]; exact k13.symm.trans kf)⟩ hv dX0_tellsAside_58
      ·
        have k14 := if_f k11 (fun z => z q12)
        refine go_iconst (pc := 53) (v := 1) (by decide) dX0_tellsAside_53 ?_
        refine go_goto (pc := 54) (tgt := 58) (by decide) dX0_tellsAside_54 ?_
        exact gi_zret (pc := 58) (ti_c (v := 1) (a := 1) (by decide)) (by omega) (by omega) ⟨_, rfl, (by rw [show (1 : Int32).toInt = 1 from (ti_c (v := 1) (a := 1) (by decide))]; omega), (by rw [show (1 : Int32).toInt = 1 from (ti_c (v := 1) (a := 1) (by decide))]; omega), rfl, (by rw [show (1 : Int32).toInt = 1 from (ti_c (v := 1) (a := 1) (by decide))]; exact k14.symm.trans kf)⟩ hv dX0_tellsAside_58
  ·
    have k15 := if_f k2 (fun z => z q3)
    refine go_iload_n (pc := 10) rfl dX0_tellsAside_10 ?_
    refine go_invS (pc := 11) (sl := 0) (s_X7_isField_f l (d + 0) hv a3) mL_X0_78 iM_X7_isField rfl rfl (Nat.le_of_ble_eq_true rfl) (show d + 0 + 1 + 1 ≤ d + 2 by omega) (show 8 + (1 + 11) + 40 * (d + 0 + 1) ≤ 40 * (d + 2) by omega) (g_c0 hv.ln) (Nat.le_of_ble_eq_true rfl) dX0_tellsAside_11 ?_
    intro r h16 hq _
    obtain ⟨v19, rfl, v19l, v19u, rfl, f20, f17, f18⟩ := hq
    replace f18 : PE _ _ := f18
    have k21 := bd_e k15 f18.symm
    refine gf_if_ne (pc := 14) (tgt := 27) (ti_rfl v19) (by decide) dX0_tellsAside_14 (fun q22 => ?_) (fun q22 => ?_)
    ·
      have k23 := if_t k21 q22
      refine go_iconst (pc := 27) (v := 1) (by decide) dX0_tellsAside_27 ?_
      refine go_goto (pc := 28) (tgt := 32) (by decide) dX0_tellsAside_28 ?_
      exact gi_zret (pc := 32) (ti_c (v := 1) (a := 1) (by decide)) (by omega) (by omega) ⟨_, rfl, (by rw [show (1 : Int32).toInt = 1 from (ti_c (v := 1) (a := 1) (by decide))]; omega), (by rw [show (1 : Int32).toInt = 1 from (ti_c (v := 1) (a := 1) (by decide))]; omega), rfl, (by rw [show (1 : Int32).toInt = 1 from (ti_c (v := 1) (a := 1) (by decide))]; exact k23.symm.trans kf)⟩ hv dX0_tellsAside_32
    ·
      have k24 := if_f k21 (fun z => z q22)
      refine go_aload_n (pc := 17) rfl dX0_tellsAside_17 ?_
      refine gi_getF (pc := 18) (q := c1 + 14) hv fL_X0_68 (by rcases hc1 with rfl | rfl <;> rfl) (Nat.le_of_ble_eq_true rfl) rfl (by rcases hc1 with rfl | rfl <;> exact hv.rf (by decide)) dX0_tellsAside_18 ?_
      refine go_iload_n (pc := 21) rfl dX0_tellsAside_21 ?_
      refine gi_iald (pc := 22) (lo := -1) (hi := 5) (len := 40) hv (ti_rfl a2) (by rcases hc1 with rfl | rfl <;> rfl) (by omega) (by omega) (fun _ => by rcases hc1 with rfl | rfl <;> rfl) dX0_tellsAside_22 (fun v25 v25l v25u v25w => ?_)
      have k26 := bd_e k24 (congrArg Int32.toInt v25w.symm)
      refine go_iload_n (pc := 23) rfl dX0_tellsAside_23 ?_
      refine gf_icmp_ne (pc := 24) (tgt := 31) (ti_rfl v25) (ti_rfl a3) (by decide) dX0_tellsAside_24 (fun q27 => ?_) (fun q27 => ?_)
      ·
        have k28 := if_t k26 q27
        refine go_iconst (pc := 31) (v := 0) (by decide) dX0_tellsAside_31 ?_
        exact gi_zret (pc := 32) (ti_c (v := 0) (a := 0) (by decide)) (by omega) (by omega) ⟨_, rfl, (by rw [show (0 : Int32).toInt = 0 from (ti_c (v := 0) (a := 0) (by decide))]; omega), (by rw [show (0 : Int32).toInt = 0 from (ti_c (v := 0) (a := 0) (by decide))]; omega), rfl, (by rw [show (0 : Int32).toInt = 0 from (ti_c (v := 0) (a := 0) (by decide))]; exact k28.symm.trans kf)⟩ hv dX0_tellsAside_32
      ·
        have k29 := if_f k26 (fun z => z q27)
        refine go_iconst (pc := 27) (v := 1) (by decide) dX0_tellsAside_27 ?_
        refine go_goto (pc := 28) (tgt := 32) (by decide) dX0_tellsAside_28 ?_
        exact gi_zret (pc := 32) (ti_c (v := 1) (a := 1) (by decide)) (by omega) (by omega) ⟨_, rfl, (by rw [show (1 : Int32).toInt = 1 from (ti_c (v := 1) (a := 1) (by decide))]; omega), (by rw [show (1 : Int32).toInt = 1 from (ti_c (v := 1) (a := 1) (by decide))]; omega), rfl, (by rw [show (1 : Int32).toInt = 1 from (ti_c (v := 1) (a := 1) (by decide))]; exact k29.symm.trans kf)⟩ hv dX0_tellsAside_32
def f_X1_kindsBetween2 (s : ST) (a2 : Int) (a3 : Int) : Int :=
  bd (s.2.1 59 (a2).toNat) fun v1 => bd (f_X7_has s v1 a3) fun v5 => if v5 = 0 then (bd (s.2.1 60 (a2).toNat) fun v9 => bd (f_X7_has s v9 a3) fun v13 => if v13 = 0 then ((0 + 0)) else ((0 + 2))) else (bd (s.2.1 60 (a2).toNat) fun v23 => bd (f_X7_has s v23 a3) fun v27 => if v27 = 0 then ((1 + 0)) else ((1 + 2)))
set_option maxHeartbeats 4000000 in
set_option maxRecDepth 100000 in
theorem s_X1_kindsBetween2_f (l : Launch) (d : Nat) {P : PP} {h : HP} (hv : Iv P h) (a2 : Int32) (a2l : 0 ≤ a2.toInt) (a2u : a2.toInt ≤ 39) (a3 : Int32) : Mt l yX1_kindsBetween cX1_kindsBetween 3 (some .int) (d + 2) [.ref 57, .int a2, .int a3] h 0 0 (fun r h' => ∃ v : Int32, r = some (.int v) ∧ 0 ≤ v.toInt ∧ v.toInt ≤ 3 ∧ h = h' ∧ (v.toInt = f_X1_kindsBetween2 (st h) a2.toInt a3.toInt)) := by
  refine Mt_iv hv (by decide) (Nat.le_of_ble_eq_true rfl) ?_
  show Go l RX1 cX1_kindsBetween 3 (g_rm (d + 2) 0 0) "kindsBetween" (some .int) 117 0 0 (fun _ _ => True) (fun r h' => ∃ v : Int32, r = some (.int v) ∧ 0 ≤ v.toInt ∧ v.toInt ≤ 3 ∧ h = h' ∧ (v.toInt = f_X1_kindsBetween2 (st h) a2.toInt a3.toInt)) 0 0 [(0, .ref 57), (1, .int a2), (2, .int a3)] [] h
  obtain ⟨fin, kf⟩ : ∃ z, z = f_X1_kindsBetween2 (st h) a2.toInt a3.toInt := ⟨_, _root_.rfl⟩
  have k0 := kf
  unfold f_X1_kindsBetween2 at k0
  refine go_aload_n (pc := 0) rfl dX1_kindsBetween_0 ?_
  refine gi_getF (pc := 1) (q := 59) hv fL_X1_15 rfl (Nat.le_of_ble_eq_true rfl) rfl (hv.rf (by decide)) dX1_kindsBetween_1 ?_
  refine go_iload_n (pc := 4) rfl dX1_kindsBetween_4 ?_
  refine gi_lald (pc := 5) (len := 40) hv (ti_rfl a2) rfl (by omega) (by omega) dX1_kindsBetween_5 (fun v1 v1w => ?_)
  have k2 := bd_e k0 v1w.symm
  refine go_iload_n (pc := 6) rfl dX1_kindsBetween_6 ?_
  refine go_invS (pc := 7) (sl := 0) (s_X7_has_f l (d + 0) hv v1 a3) mL_X1_56 iM_X7_has rfl rfl (Nat.le_of_ble_eq_true rfl) (show d + 0 + 1 + 1 ≤ d + 2 by omega) (show 8 + (3 + 11) + 40 * (d + 0 + 1) ≤ 40 * (d + 2) by omega) (g_c0 hv.ln) (Nat.le_of_ble_eq_true rfl) dX1_kindsBetween_7 ?_
  intro r h3 hq _
  obtain ⟨v5, rfl, v5l, v5u, rfl, f4⟩ := hq
  replace f4 : PE _ _ := f4
  have k6 := bd_e k2 f4.symm
  refine gf_if_eq (pc := 10) (tgt := 17) (ti_rfl v5) (by decide) dX1_kindsBetween_10 (fun q7 => ?_) (fun q7 => ?_)
  ·
    have k8 := if_t k6 q7
    refine go_iconst (pc := 17) (v := 0) (by decide) dX1_kindsBetween_17 ?_
    refine go_aload_n (pc := 18) rfl dX1_kindsBetween_18 ?_
    refine gi_getF (pc := 19) (q := 60) hv fL_X1_18 rfl (Nat.le_of_ble_eq_true rfl) rfl (hv.rf (by decide)) dX1_kindsBetween_19 ?_
    refine go_iload_n (pc := 22) rfl dX1_kindsBetween_22 ?_
    refine gi_lald (pc := 23) (len := 40) hv (ti_rfl a2) rfl (by omega) (by omega) dX1_kindsBetween_23 (fun v9 v9w => ?_)
    have k10 := bd_e k8 v9w.symm
    refine go_iload_n (pc := 24) rfl dX1_kindsBetween_24 ?_
    refine go_invS (pc := 25) (sl := 0) (s_X7_has_f l (d + 0) hv v9 a3) mL_X1_56 iM_X7_has rfl rfl (Nat.le_of_ble_eq_true rfl) (show d + 0 + 1 + 1 ≤ d + 2 by omega) (show 8 + (3 + 11) + 40 * (d + 0 + 1) ≤ 40 * (d + 2) by omega) (g_c0 hv.ln) (Nat.le_of_ble_eq_true rfl) dX1_kindsBetween_25 ?_
    intro r h11 hq _
    obtain ⟨v13, rfl, v13l, v13u, rfl, f12⟩ := hq
    replace f12 : PE _ _ := f12
    have k14 := bd_e k10 f12.symm
    refine gf_if_eq (pc := 28) (tgt := 35) (ti_rfl v13) (by decide) dX1_kindsBetween_28 (fun q15 => ?_) (fun q15 => ?_)
    ·
      have k16 := if_t k14 q15
      refine go_iconst (pc := 35) (v := 0) (by decide) dX1_kindsBetween_35 ?_
      refine gf_iadd (pc := 36) (ti_c (v := 0) (a := 0) (by decide)) (ti_c (v := 0) (a := 0) (by decide)) (by omega) (by omega) dX1_kindsBetween_36 (fun v17 e18 => ?_)
      exact gi_iret (pc := 37) e18 ⟨_, rfl, (by rw [show (v17 : Int32).toInt = (0 + 0) from e18]; omega), (by rw [show (v17 : Int32).toInt = (0 + 0) from e18]; omega), rfl, (by rw [show (v17 : Int32).toInt = (0 + 0) from e18]; exact k16.symm.trans kf)⟩ hv dX1_kindsBetween_37
    ·
      have k19 := if_f k14 q15
      refine go_iconst (pc := 31) (v := 2) (by decide) dX1_kindsBetween_31 ?_
      refine go_goto (pc := 32) (tgt := 36) (by decide) dX1_kindsBetween_32 ?_
      refine gf_iadd (pc := 36) (ti_c (v := 0) (a := 0) (by decide)) (ti_c (v := 2) (a := 2) (by decide)) (by omega) (by omega) dX1_kindsBetween_36 (fun v20 e21 => ?_)
      exact gi_iret (pc := 37) e21 ⟨_, rfl, (by rw [show (v20 : Int32).toInt = (0 + 2) from e21]; omega), (by rw [show (v20 : Int32).toInt = (0 + 2) from e21]; omega), rfl, (by rw [show (v20 : Int32).toInt = (0 + 2) from e21]; exact k19.symm.trans kf)⟩ hv dX1_kindsBetween_37
  ·
    have k22 := if_f k6 q7
    refine go_iconst (pc := 13) (v := 1) (by decide) dX1_kindsBetween_13 ?_
    refine go_goto (pc := 14) (tgt := 18) (by decide) dX1_kindsBetween_14 ?_
    refine go_aload_n (pc := 18) rfl dX1_kindsBetween_18 ?_
    refine gi_getF (pc := 19) (q := 60) hv fL_X1_18 rfl (Nat.le_of_ble_eq_true rfl) rfl (hv.rf (by decide)) dX1_kindsBetween_19 ?_
    refine go_iload_n (pc := 22) rfl dX1_kindsBetween_22 ?_
    refine gi_lald (pc := 23) (len := 40) hv (ti_rfl a2) rfl (by omega) (by omega) dX1_kindsBetween_23 (fun v23 v23w => ?_)
    have k24 := bd_e k22 v23w.symm
    refine go_iload_n (pc := 24) rfl dX1_kindsBetween_24 ?_
    refine go_invS (pc := 25) (sl := 0) (s_X7_has_f l (d + 0) hv v23 a3) mL_X1_56 iM_X7_has rfl rfl (Nat.le_of_ble_eq_true rfl) (show d + 0 + 1 + 1 ≤ d + 2 by omega) (show 8 + (3 + 11) + 40 * (d + 0 + 1) ≤ 40 * (d + 2) by omega) (g_c0 hv.ln) (Nat.le_of_ble_eq_true rfl) dX1_kindsBetween_25 ?_
    intro r h25 hq _
    obtain ⟨v27, rfl, v27l, v27u, rfl, f26⟩ := hq
    replace f26 : PE _ _ := f26
    have k28 := bd_e k24 f26.symm
    refine gf_if_eq (pc := 28) (tgt := 35) (ti_rfl v27) (by decide) dX1_kindsBetween_28 (fun q29 => ?_) (fun q29 => ?_)
    ·
      have k30 := if_t k28 q29
      refine go_iconst (pc := 35) (v := 0) (by decide) dX1_kindsBetween_35 ?_
      refine gf_iadd (pc := 36) (ti_c (v := 1) (a := 1) (by decide)) (ti_c (v := 0) (a := 0) (by decide)) (by omega) (by omega) dX1_kindsBetween_36 (fun v31 e32 => ?_)
      exact gi_iret (pc := 37) e32 ⟨_, rfl, (by rw [show (v31 : Int32).toInt = (1 + 0) from e32]; omega), (by rw [show (v31 : Int32).toInt = (1 + 0) from e32]; omega), rfl, (by rw [show (v31 : Int32).toInt = (1 + 0) from e32]; exact k30.symm.trans kf)⟩ hv dX1_kindsBetween_37
    ·
      have k33 := if_f k28 q29
      refine go_iconst (pc := 31) (v := 2) (by decide) dX1_kindsBetween_31 ?_
      refine go_goto (pc := 32) (tgt := 36) (by decide) dX1_kindsBetween_32 ?_
      refine gf_iadd (pc := 36) (ti_c (v := 1) (a := 1) (by decide)) (ti_c (v := 2) (a := 2) (by decide)) (by omega) (by omega) dX1_kindsBetween_36 (fun v34 e35 => ?_)
      exact gi_iret (pc := 37) e35 ⟨_, rfl, (by rw [show (v34 : Int32).toInt = (1 + 2) from e35]; omega), (by rw [show (v34 : Int32).toInt = (1 + 2) from e35]; omega), rfl, (by rw [show (v34 : Int32).toInt = (1 + 2) from e35]; exact k33.symm.trans kf)⟩ hv dX1_kindsBetween_37
def f_X1_tie2 (s : ST) (a2 : Int) (a3 : Int) (a4 : Int) (a5 : Int64) : ST :=
  bd (s.2.1 58 (((((a2 * 13) + a3) * 13) + a4)).toNat) fun v9 => bd (o_lor v9 a5) fun v11 => bd (sL s 58 (((((a2 * 13) + a3) * 13) + a4)).toNat v11) fun s13 => s13
set_option maxHeartbeats 4000000 in
set_option maxRecDepth 100000 in
theorem s_X1_tie2_f (l : Launch) (d : Nat) {P : PP} {h : HP} (hv : Iv P h) (a2 : Int32) (a2l : 0 ≤ a2.toInt) (a2u : a2.toInt ≤ 44) (a3 : Int32) (a3l : 0 ≤ a3.toInt) (a3u : a3.toInt ≤ 12) (a4 : Int32) (a4l : 0 ≤ a4.toInt) (a4u : a4.toInt ≤ 12) (a5 : Int64) : Mt l yX1_tie cX1_tie 6 none (d + 1) [.ref 57, .int a2, .int a3, .int a4, .long a5] h 0 0 (fun r h' => r = none ∧ Iv P h' ∧ (st h' = f_X1_tie2 (st h) a2.toInt a3.toInt a4.toInt a5) ∧ (FX KAc h h')) := by
  refine Mt_iv hv (by decide) (Nat.le_of_ble_eq_true rfl) ?_
  show Go l RX1 cX1_tie 6 (g_rm (d + 1) 0 0) "tie" none 117 0 0 (fun _ _ => True) (fun r h' => r = none ∧ Iv P h' ∧ (st h' = f_X1_tie2 (st h) a2.toInt a3.toInt a4.toInt a5) ∧ (FX KAc h h')) 0 0 [(0, .ref 57), (1, .int a2), (2, .int a3), (3, .int a4), (4, .long a5)] [] h
  have fx : FX KAc h h := FX.rfl
  obtain ⟨fin, kf⟩ : ∃ z, z = f_X1_tie2 (st h) a2.toInt a3.toInt a4.toInt a5 := ⟨_, _root_.rfl⟩
  have k0 := kf
  unfold f_X1_tie2 at k0
  refine go_aload_n (pc := 0) rfl dX1_tie_0 ?_
  refine gi_getF (pc := 1) (q := 58) hv fL_X1_9 rfl (Nat.le_of_ble_eq_true rfl) rfl (hv.rf (by decide)) dX1_tie_1 ?_
  refine go_iload_n (pc := 4) rfl dX1_tie_4 ?_
  refine go_bipush (pc := 5) (v := 13) (by decide) dX1_tie_5 ?_
  refine gf_imul (pc := 7) (ti_rfl a2) (ti_c (v := 13) (a := 13) (by decide)) (by omega) (by omega) dX1_tie_7 (fun v1 e2 => ?_)
  refine go_iload_n (pc := 8) rfl dX1_tie_8 ?_
  refine gf_iadd (pc := 9) e2 (ti_rfl a3) (by omega) (by omega) dX1_tie_9 (fun v3 e4 => ?_)
  refine go_bipush (pc := 10) (v := 13) (by decide) dX1_tie_10 ?_
  refine gf_imul (pc := 12) e4 (ti_c (v := 13) (a := 13) (by decide)) (by omega) (by omega) dX1_tie_12 (fun v5 e6 => ?_)
  refine go_iload_n (pc := 13) rfl dX1_tie_13 ?_
  refine gf_iadd (pc := 14) e6 (ti_rfl a4) (by omega) (by omega) dX1_tie_14 (fun v7 e8 => ?_)
  refine go_dup2 (pc := 15) rfl rfl dX1_tie_15 ?_
  refine gi_lald (pc := 16) (len := 7605) hv e8 rfl (by omega) (by omega) dX1_tie_16 (fun v9 v9w => ?_)
  have k10 := bd_e k0 v9w.symm
  refine go_lload (pc := 17) rfl dX1_tie_17 ?_
  refine gx_lor (pc := 19) dX1_tie_19 (fun v11 v11x => ?_)
  have k12 := bd_e k10 (so_lor v11x)
  refine gi_last (pc := 20) (len := 7605) hv e8 rfl (by omega) (by omega) dX1_tie_20 (fun h13 hv13 hv13e => ?_)
  have fx13 : FX KAc h h13 := FX.pL fx hv13e (by unfold KAc; omega)
  have k14 := bd_e k12 (st_L hv13e)
  exact gi_vret (pc := 21) ⟨rfl, hv13, (k14.symm.trans kf), fx13⟩ hv13 dX1_tie_21
noncomputable def f_X1_findCertain2_ : Nat → Nat → Int → Int → Int → ST → ST
  | 0, _, _, _, _, sx => sx
  | n + 1, lab, l1, l2, l3, sx => if lab = 2 then (if 45 ≤ l1 then (f_X1_findCertain2_ n 37 1 0 0 sx) else (if 40 ≤ l1 then (bd (sL sx 63 (l1).toNat (0 : Int64)) fun s8 => f_X1_findCertain2_ n 2 ((l1 + 1)) 0 0 s8) else (bd (sL sx 63 (l1).toNat (1099511627775 : Int64)) fun s14 => f_X1_findCertain2_ n 2 ((l1 + 1)) 0 0 s14))) else if lab = 37 then (if 2025 ≤ l2 then (sx) else (if l1 = 0 then (sx) else (bd (sx.2.2 57 6) fun c25 => bd (sx.1 c25 0) fun v27 => f_X1_findCertain2_ n 60 0 l2 ((v27 - 1)) sx))) else if l3 < 0 then (f_X1_findCertain2_ n 37 l1 ((l2 + 1)) 0 sx) else (bd (sx.2.2 57 6) fun c39 => bd (sx.1 (c39 + 12) (l3).toNat) fun v41 => bd (sx.2.1 63 (v41).toNat) fun v43 => bd (sx.2.2 57 6) fun c45 => bd (f_X0_decides sx c45 l3) fun v49 => if v49 = 0 then (bd (f_X7_bit sx l3) fun v55 => bd (o_lor v43 v55) fun v57 => bd (sx.2.1 63 (l3).toNat) fun v59 => bd (o_lcmp v57 v59) fun v61 => if v61 = 0 then (bd (o_ior l1 0) fun v65 => bd (sL sx 63 (l3).toNat v57) fun s67 => f_X1_findCertain2_ n 60 v65 l2 ((l3 + (-1))) s67) else (bd (o_ior l1 1) fun v73 => bd (sL sx 63 (l3).toNat v57) fun s75 => f_X1_findCertain2_ n 60 v73 l2 ((l3 + (-1))) s75)) else (bd (sx.2.2 57 6) fun c81 => bd (sx.1 (c81 + 13) (l3).toNat) fun v83 => bd (sx.2.1 63 (v83).toNat) fun v85 => bd (o_land v43 v85) fun v87 => bd (f_X7_bit sx l3) fun v91 => bd (o_lor v87 v91) fun v93 => bd (sx.2.1 63 (l3).toNat) fun v95 => bd (o_lcmp v93 v95) fun v97 => if v97 = 0 then (bd (o_ior l1 0) fun v101 => bd (sL sx 63 (l3).toNat v93) fun s103 => f_X1_findCertain2_ n 60 v101 l2 ((l3 + (-1))) s103) else (bd (o_ior l1 1) fun v109 => bd (sL sx 63 (l3).toNat v93) fun s111 => f_X1_findCertain2_ n 60 v109 l2 ((l3 + (-1))) s111)))
noncomputable def f_X1_findCertain2 (s : ST) : ST :=
  f_X1_findCertain2_ (BG 387412) 2 0 0 0 s
set_option maxHeartbeats 4000000 in
set_option maxRecDepth 100000 in
theorem s_X1_findCertain2_f (l : Launch) (d : Nat) {P : PP} {h : HP} (hv : Iv P h)  : Mt l yX1_findCertain cX1_findCertain 6 none (d + 3) [.ref 57] h 0 0 (fun r h' => r = none ∧ Iv P h' ∧ (st h' = f_X1_findCertain2 (st h)) ∧ (FX KAc h h')) := by
  refine Mt_iv hv (by decide) (Nat.le_of_ble_eq_true rfl) ?_
  show Go l RX1 cX1_findCertain 6 (g_rm (d + 3) 0 0) "findCertain" none 117 0 0 (fun _ _ => True) (fun r h' => r = none ∧ Iv P h' ∧ (st h' = f_X1_findCertain2 (st h)) ∧ (FX KAc h h')) 0 0 [(0, .ref 57)] [] h
  have fx : FX KAc h h := FX.rfl
  obtain ⟨fin, kf⟩ : ∃ z, z = f_X1_findCertain2 (st h) := ⟨_, _root_.rfl⟩
  have k0 := kf
  unfold f_X1_findCertain2 at k0
  have key : ∀ n : Nat, (∀ (l1 : Int32) (hx : HP), Iv P hx → 0 ≤ l1.toInt → l1.toInt ≤ 45 → FX KAc h hx → fin = f_X1_findCertain2_ n 2 l1.toInt 0 0 (st hx) → (3 * (45 - l1.toInt) + 387260 : Int) < n → Go l RX1 cX1_findCertain 6 (g_rm (d + 3) 0 0) "findCertain" none 117 0 0 (fun _ _ => True) (fun r h' => r = none ∧ Iv P h' ∧ (st h' = f_X1_findCertain2 (st h)) ∧ (FX KAc h h')) 0 2 [(0, .ref 57), (1, .int l1)] [] hx) ∧ (∀ (l1 : Int32) (l2 : Int32) (hx : HP), Iv P hx → 0 ≤ l1.toInt → l1.toInt ≤ 1 → 0 ≤ l2.toInt → l2.toInt ≤ 3000 → FX KAc h hx → fin = f_X1_findCertain2_ n 37 l1.toInt l2.toInt 0 (st hx) → (129 * (3000 - l2.toInt) + 128 : Int) < n → Go l RX1 cX1_findCertain 6 (g_rm (d + 3) 0 0) "findCertain" none 117 0 0 (fun _ _ => True) (fun r h' => r = none ∧ Iv P h' ∧ (st h' = f_X1_findCertain2 (st h)) ∧ (FX KAc h h')) 0 37 [(0, .ref 57), (1, .int l1), (2, .int l2)] [] hx) ∧ (∀ (l1 : Int32) (l2 : Int32) (l3 : Int32) (hx : HP), Iv P hx → 0 ≤ l1.toInt → l1.toInt ≤ 1 → 0 ≤ l2.toInt → l2.toInt ≤ 2025 → -1 ≤ l3.toInt → l3.toInt ≤ 39 → FX KAc h hx → fin = f_X1_findCertain2_ n 60 l1.toInt l2.toInt l3.toInt (st hx) → (3 * (l3.toInt + 1) + 129 * (3000 - l2.toInt) + 3 : Int) < n → Go l RX1 cX1_findCertain 6 (g_rm (d + 3) 0 0) "findCertain" none 117 0 0 (fun _ _ => True) (fun r h' => r = none ∧ Iv P h' ∧ (st h' = f_X1_findCertain2 (st h)) ∧ (FX KAc h h')) 0 60 [(0, .ref 57), (1, .int l1), (2, .int l2), (3, .int l3)] [] hx) := by
    intro n
    induction n with
    | zero => exact ⟨(by intros; omega), (by intros; omega), (by intros; omega)⟩
    | succ n ih =>
      refine ⟨?_, ?_, ?_⟩
      ·
        intro l1 hx hvx l1l l1u fxx kL hm
        rw [f_X1_findCertain2_] at kL
        replace kL := if_t kL _root_.rfl
        refine go_iload_n (pc := 2) rfl dX1_findCertain_2 ?_
        refine go_bipush (pc := 3) (v := 45) (by decide) dX1_findCertain_3 ?_
        refine gf_icmp_ge (pc := 5) (tgt := 33) (ti_rfl l1) (ti_c (v := 45) (a := 45) (by decide)) (by decide) dX1_findCertain_5 (fun q1 => ?_) (fun q1 => ?_)
        ·
          have k2 := if_t kL q1
          refine go_iconst (pc := 33) (v := 1) (by decide) dX1_findCertain_33 ?_
          refine go_istore_n (pc := 34) (Nat.le_of_ble_eq_true rfl) dX1_findCertain_34 (go_lv (lv2 := [(0, .ref 57), (1, .int 1)]) rfl ?_)
          refine go_iconst (pc := 35) (v := 0) (by decide) dX1_findCertain_35 ?_
          refine go_istore_n (pc := 36) (Nat.le_of_ble_eq_true rfl) dX1_findCertain_36 (go_lv (lv2 := [(0, .ref 57), (1, .int 1), (2, .int 0)]) rfl ?_)
          have z3 : (1 : Int32).toInt = 1 := (ti_c (v := 1) (a := 1) (by decide))
          have z4 : (0 : Int32).toInt = 0 := (ti_c (v := 0) (a := 0) (by decide))
          exact go_lv rfl (ih.2.1 1 0 hx hvx (by omega) (by omega) (by omega) (by omega) fxx (by rw [show (1 : Int32).toInt = 1 from (ti_c (v := 1) (a := 1) (by decide)), show (0 : Int32).toInt = 0 from (ti_c (v := 0) (a := 0) (by decide))]; exact k2) (by omega))
        ·
          have k5 := if_f kL (Int.not_le.mpr q1)
          refine go_aload_n (pc := 8) rfl dX1_findCertain_8 ?_
          refine gi_getF (pc := 9) (q := 63) hvx fL_X1_27 rfl (Nat.le_of_ble_eq_true rfl) rfl (hvx.rf (by decide)) dX1_findCertain_9 ?_
          refine go_iload_n (pc := 12) rfl dX1_findCertain_12 ?_
          refine go_iload_n (pc := 13) rfl dX1_findCertain_13 ?_
          refine go_bipush (pc := 14) (v := 40) (by decide) dX1_findCertain_14 ?_
          refine gf_icmp_ge (pc := 16) (tgt := 25) (ti_rfl l1) (ti_c (v := 40) (a := 40) (by decide)) (by decide) dX1_findCertain_16 (fun q6 => ?_) (fun q6 => ?_)
          ·
            have k7 := if_t k5 q6
            refine go_lconst (pc := 25) (v := 0) (by decide) dX1_findCertain_25 ?_
            refine gi_last (pc := 26) (len := 45) hvx (ti_rfl l1) rfl (by omega) (by omega) dX1_findCertain_26 (fun h8 hv8 hv8e => ?_)
            have fx8 : FX KAc h h8 := FX.pL fxx hv8e (by unfold KAc; omega)
            have k9 := bd_e k7 (st_L hv8e)
            refine gf_iinc (pc := 27) (Nat.le_of_ble_eq_true rfl) rfl (ti_rfl l1) (ti_c (by decide)) (by omega) (by omega) dX1_findCertain_27 (fun v10 e11 => ?_)
            refine go_lv (lv2 := [(0, .ref 57), (1, .int v10)]) rfl ?_
            refine go_goto (pc := 30) (tgt := 2) (by decide) dX1_findCertain_30 ?_
            have z12 : (v10 : Int32).toInt = (l1.toInt + 1) := e11
            exact go_lv rfl (ih.1 v10 h8 hv8 (by omega) (by omega) fx8 (by rw [show (v10 : Int32).toInt = (l1.toInt + 1) from e11]; exact k9) (by omega))
          ·
            have k13 := if_f k5 (Int.not_le.mpr q6)
            refine go_ldc2 (pc := 19) kL_X1_60 dX1_findCertain_19 ?_
            refine go_goto (pc := 22) (tgt := 26) (by decide) dX1_findCertain_22 ?_
            refine gi_last (pc := 26) (len := 45) hvx (ti_rfl l1) rfl (by omega) (by omega) dX1_findCertain_26 (fun h14 hv14 hv14e => ?_)
            have fx14 : FX KAc h h14 := FX.pL fxx hv14e (by unfold KAc; omega)
            have k15 := bd_e k13 (st_L hv14e)
            refine gf_iinc (pc := 27) (Nat.le_of_ble_eq_true rfl) rfl (ti_rfl l1) (ti_c (by decide)) (by omega) (by omega) dX1_findCertain_27 (fun v16 e17 => ?_)
            refine go_lv (lv2 := [(0, .ref 57), (1, .int v16)]) rfl ?_
            refine go_goto (pc := 30) (tgt := 2) (by decide) dX1_findCertain_30 ?_
            have z18 : (v16 : Int32).toInt = (l1.toInt + 1) := e17
            exact go_lv rfl (ih.1 v16 h14 hv14 (by omega) (by omega) fx14 (by rw [show (v16 : Int32).toInt = (l1.toInt + 1) from e17]; exact k15) (by omega))
      ·
        intro l1 l2 hx hvx l1l l1u l2l l2u fxx kL hm
        rw [f_X1_findCertain2_] at kL
        replace kL := if_f kL (by decide)
        replace kL := if_t kL _root_.rfl
        refine go_iload_n (pc := 37) rfl dX1_findCertain_37 ?_
        refine go_sipush (pc := 38) (v := 2025) (by decide) dX1_findCertain_38 ?_
        refine gf_icmp_ge (pc := 41) (tgt := 159) (ti_rfl l2) (ti_c (v := 2025) (a := 2025) (by decide)) (by decide) dX1_findCertain_41 (fun q19 => ?_) (fun q19 => ?_)
        ·
          have k20 := if_t kL q19
          exact gi_vret (pc := 159) ⟨rfl, hvx, (k20.symm.trans kf), fxx⟩ hvx dX1_findCertain_159
        ·
          have k21 := if_f kL (Int.not_le.mpr q19)
          refine go_iload_n (pc := 44) rfl dX1_findCertain_44 ?_
          refine gf_if_eq (pc := 45) (tgt := 159) (ti_rfl l1) (by decide) dX1_findCertain_45 (fun q22 => ?_) (fun q22 => ?_)
          ·
            have k23 := if_t k21 q22
            exact gi_vret (pc := 159) ⟨rfl, hvx, (k23.symm.trans kf), fxx⟩ hvx dX1_findCertain_159
          ·
            have k24 := if_f k21 q22
            refine go_iconst (pc := 48) (v := 0) (by decide) dX1_findCertain_48 ?_
            refine go_istore_n (pc := 49) (Nat.le_of_ble_eq_true rfl) dX1_findCertain_49 (go_lv (lv2 := [(0, .ref 57), (1, .int 0), (2, .int l2)]) rfl ?_)
            refine go_aload_n (pc := 50) rfl dX1_findCertain_50 ?_
            refine gi_getC (pc := 51) hvx fL_X1_30 rfl (Nat.le_of_ble_eq_true rfl) rfl (by decide) dX1_findCertain_51 (fun c25 hc25 fc25 => ?_)
            have k26 := bd_e k24 (st_c fc25)
            refine gi_get (pc := 54) (lo := 0) (hi := 40) hvx fL_X1_62 (by rcases hc25 with rfl | rfl <;> rfl) (Nat.le_of_ble_eq_true rfl) rfl (by rcases hc25 with rfl | rfl <;> rfl) dX1_findCertain_54 (fun v27 v27l v27u v27w => ?_)
            have k28 := bd_e k26 (congrArg Int32.toInt v27w.symm)
            refine go_iconst (pc := 57) (v := 1) (by decide) dX1_findCertain_57 ?_
            refine gf_isub (pc := 58) (ti_rfl v27) (ti_c (v := 1) (a := 1) (by decide)) (by omega) (by omega) dX1_findCertain_58 (fun v29 e30 => ?_)
            refine go_istore_n (pc := 59) (Nat.le_of_ble_eq_true rfl) dX1_findCertain_59 (go_lv (lv2 := [(0, .ref 57), (1, .int 0), (2, .int l2), (3, .int v29)]) rfl ?_)
            have z31 : (0 : Int32).toInt = 0 := (ti_c (v := 0) (a := 0) (by decide))
            have z32 : (v29 : Int32).toInt = (v27.toInt - 1) := e30
            exact go_lv rfl (ih.2.2 0 l2 v29 hx hvx (by omega) (by omega) (by omega) (by omega) (by omega) (by omega) fxx (by rw [show (0 : Int32).toInt = 0 from (ti_c (v := 0) (a := 0) (by decide)), show (v29 : Int32).toInt = (v27.toInt - 1) from e30]; exact k28) (by omega))
      ·
        intro l1 l2 l3 hx hvx l1l l1u l2l l2u l3l l3u fxx kL hm
        rw [f_X1_findCertain2_] at kL
        replace kL := if_f kL (by decide)
        replace kL := if_f kL (by decide)
        refine go_iload_n (pc := 60) rfl dX1_findCertain_60 ?_
        refine gf_if_lt (pc := 61) (tgt := 153) (ti_rfl l3) (by decide) dX1_findCertain_61 (fun q33 => ?_) (fun q33 => ?_)
        ·
          have k34 := if_t kL q33
          refine gf_iinc (pc := 153) (Nat.le_of_ble_eq_true rfl) rfl (ti_rfl l2) (ti_c (by decide)) (by omega) (by omega) dX1_findCertain_153 (fun v35 e36 => ?_)
          refine go_lv (lv2 := [(0, .ref 57), (1, .int l1), (2, .int v35), (3, .int l3)]) rfl ?_
          refine go_goto (pc := 156) (tgt := 37) (by decide) dX1_findCertain_156 ?_
          have z37 : (v35 : Int32).toInt = (l2.toInt + 1) := e36
          exact go_lv rfl (ih.2.1 l1 v35 hx hvx (by omega) (by omega) (by omega) (by omega) fxx (by rw [show (v35 : Int32).toInt = (l2.toInt + 1) from e36]; exact k34) (by omega))
        ·
          have k38 := if_f kL (Int.not_lt.mpr q33)
          refine go_aload_n (pc := 64) rfl dX1_findCertain_64 ?_
          refine gi_getF (pc := 65) (q := 63) hvx fL_X1_27 rfl (Nat.le_of_ble_eq_true rfl) rfl (hvx.rf (by decide)) dX1_findCertain_65 ?_
          refine go_aload_n (pc := 68) rfl dX1_findCertain_68 ?_
          refine gi_getC (pc := 69) hvx fL_X1_30 rfl (Nat.le_of_ble_eq_true rfl) rfl (by decide) dX1_findCertain_69 (fun c39 hc39 fc39 => ?_)
          have k40 := bd_e k38 (st_c fc39)
          refine gi_getF (pc := 72) (q := c39 + 12) hvx fL_X1_68 (by rcases hc39 with rfl | rfl <;> rfl) (Nat.le_of_ble_eq_true rfl) rfl (by rcases hc39 with rfl | rfl <;> exact hvx.rf (by decide)) dX1_findCertain_72 ?_
          refine go_iload_n (pc := 75) rfl dX1_findCertain_75 ?_
          refine gi_iald (pc := 76) (lo := 0) (hi := 44) (len := 40) hvx (ti_rfl l3) (by rcases hc39 with rfl | rfl <;> rfl) (by omega) (by omega) (fun _ => by rcases hc39 with rfl | rfl <;> rfl) dX1_findCertain_76 (fun v41 v41l v41u v41w => ?_)
          have k42 := bd_e k40 (congrArg Int32.toInt v41w.symm)
          refine gi_lald (pc := 77) (len := 45) hvx (ti_rfl v41) rfl (by omega) (by omega) dX1_findCertain_77 (fun v43 v43w => ?_)
          have k44 := bd_e k42 v43w.symm
          refine go_lstore (pc := 78) (Nat.le_of_ble_eq_true rfl) dX1_findCertain_78 (go_lv (lv2 := [(0, .ref 57), (1, .int l1), (2, .int l2), (3, .int l3), (4, .long v43)]) rfl ?_)
          refine go_aload_n (pc := 80) rfl dX1_findCertain_80 ?_
          refine gi_getC (pc := 81) hvx fL_X1_30 rfl (Nat.le_of_ble_eq_true rfl) rfl (by decide) dX1_findCertain_81 (fun c45 hc45 fc45 => ?_)
          have k46 := bd_e k44 (st_c fc45)
          refine go_iload_n (pc := 84) rfl dX1_findCertain_84 ?_
          refine go_invV (pc := 85) (sl := 0) (s_X0_decides_f l (d + 0) hvx c45 hc45 l3 (by rw [show (l3 : Int32).toInt = l3.toInt from (ti_rfl l3)]; omega) (by rw [show (l3 : Int32).toInt = l3.toInt from (ti_rfl l3)]; omega)) mL_X1_72 iM_X0_decides sM_X0_decides (hvx.sh (by rcases hc45 with rfl | rfl <;> rfl)) rfl rfl rfl (Nat.le_of_ble_eq_true rfl) (show d + 0 + 2 + 1 ≤ d + 3 by omega) (show 8 + (2 + 11) + 40 * (d + 0 + 2) ≤ 40 * (d + 3) by omega) (g_c0 hvx.ln) (Nat.le_of_ble_eq_true rfl) dX1_findCertain_85 ?_
          intro r h47 hq _
          obtain ⟨v49, rfl, v49l, v49u, rfl, f48⟩ := hq
          replace f48 : PE _ _ := f48
          have k50 := bd_e k46 f48.symm
          refine gf_if_eq (pc := 88) (tgt := 110) (ti_rfl v49) (by decide) dX1_findCertain_88 (fun q51 => ?_) (fun q51 => ?_)
          ·
            have k52 := if_t k50 q51
            refine go_lload (pc := 110) rfl dX1_findCertain_110 ?_
            refine go_iload_n (pc := 112) rfl dX1_findCertain_112 ?_
            refine go_invS (pc := 113) (sl := 0) (s_X7_bit_f l (d + 1) hvx l3) mL_X1_79 iM_X7_bit rfl rfl (Nat.le_of_ble_eq_true rfl) (show d + 1 + 1 + 1 ≤ d + 3 by omega) (show 8 + (1 + 11) + 40 * (d + 1 + 1) ≤ 40 * (d + 3) by omega) (g_c0 hvx.ln) (Nat.le_of_ble_eq_true rfl) dX1_findCertain_113 ?_
            intro r h53 hq _
            obtain ⟨v55, rfl, rfl, f54⟩ := hq
            have k56 := bd_e k52 f54.symm
            refine gx_lor (pc := 116) dX1_findCertain_116 (fun v57 v57x => ?_)
            have k58 := bd_e k56 (so_lor v57x)
            refine go_lstore (pc := 117) (Nat.le_of_ble_eq_true rfl) dX1_findCertain_117 (go_lv (lv2 := [(0, .ref 57), (1, .int l1), (2, .int l2), (3, .int l3), (4, .long v57)]) rfl ?_)
            refine go_iload_n (pc := 119) rfl dX1_findCertain_119 ?_
            refine go_lload (pc := 120) rfl dX1_findCertain_120 ?_
            refine go_aload_n (pc := 122) rfl dX1_findCertain_122 ?_
            refine gi_getF (pc := 123) (q := 63) hvx fL_X1_27 rfl (Nat.le_of_ble_eq_true rfl) rfl (hvx.rf (by decide)) dX1_findCertain_123 ?_
            refine go_iload_n (pc := 126) rfl dX1_findCertain_126 ?_
            refine gi_lald (pc := 127) (len := 45) hvx (ti_rfl l3) rfl (by omega) (by omega) dX1_findCertain_127 (fun v59 v59w => ?_)
            have k60 := bd_e k58 v59w.symm
            refine gx_lcmp (pc := 128) dX1_findCertain_128 (fun v61 v61x => ?_)
            have k62 := bd_e k60 (so_lcmp v61x)
            refine gf_if_eq (pc := 129) (tgt := 136) (ti_rfl v61) (by decide) dX1_findCertain_129 (fun q63 => ?_) (fun q63 => ?_)
            ·
              have k64 := if_t k62 q63
              refine go_iconst (pc := 136) (v := 0) (by decide) dX1_findCertain_136 ?_
              refine gx_ior (pc := 137) dX1_findCertain_137 (fun v65 v65x => ?_)
              have v65l : 0 ≤ v65.toInt := by rw [v65x]; exact (ti_orB (ti_rfl l1) (ti_c (v := 0) (a := 0) (by decide)) (by omega) (by omega) (by omega) (by omega)).1
              have v65u : v65.toInt ≤ 1 := by rw [v65x]; exact (ti_orB (ti_rfl l1) (ti_c (v := 0) (a := 0) (by decide)) (by omega) (by omega) (by omega) (by omega)).2
              have k66 := bd_e k64 (so_ior (ti_rfl l1) (ti_c (v := 0) (a := 0) (by decide)) v65x)
              refine go_istore_n (pc := 138) (Nat.le_of_ble_eq_true rfl) dX1_findCertain_138 (go_lv (lv2 := [(0, .ref 57), (1, .int v65), (2, .int l2), (3, .int l3), (4, .long v57)]) rfl ?_)
              refine go_aload_n (pc := 139) rfl dX1_findCertain_139 ?_
              refine gi_getF (pc := 140) (q := 63) hvx fL_X1_27 rfl (Nat.le_of_ble_eq_true rfl) rfl (hvx.rf (by decide)) dX1_findCertain_140 ?_
              refine go_iload_n (pc := 143) rfl dX1_findCertain_143 ?_
              refine go_lload (pc := 144) rfl dX1_findCertain_144 ?_
              refine gi_last (pc := 146) (len := 45) hvx (ti_rfl l3) rfl (by omega) (by omega) dX1_findCertain_146 (fun h67 hv67 hv67e => ?_)
              have fx67 : FX KAc h h67 := FX.pL fxx hv67e (by unfold KAc; omega)
              have k68 := bd_e k66 (st_L hv67e)
              refine gf_iinc (pc := 147) (Nat.le_of_ble_eq_true rfl) rfl (ti_rfl l3) (ti_c (by decide)) (by omega) (by omega) dX1_findCertain_147 (fun v69 e70 => ?_)
              refine go_lv (lv2 := [(0, .ref 57), (1, .int v65), (2, .int l2), (3, .int v69), (4, .long v57)]) rfl ?_
              refine go_goto (pc := 150) (tgt := 60) (by decide) dX1_findCertain_150 ?_
              have z71 : (v69 : Int32).toInt = (l3.toInt + (-1)) := e70
              exact go_lv rfl (ih.2.2 v65 l2 v69 h67 hv67 (by omega) (by omega) (by omega) (by omega) (by omega) (by omega) fx67 (by rw [show (v69 : Int32).toInt = (l3.toInt + (-1)) from e70]; exact k68) (by omega))
            ·
              have k72 := if_f k62 q63
              refine go_iconst (pc := 132) (v := 1) (by decide) dX1_findCertain_132 ?_
              refine go_goto (pc := 133) (tgt := 137) (by decide) dX1_findCertain_133 ?_
              refine gx_ior (pc := 137) dX1_findCertain_137 (fun v73 v73x => ?_)
              have v73l : 0 ≤ v73.toInt := by rw [v73x]; exact (ti_orB (ti_rfl l1) (ti_c (v := 1) (a := 1) (by decide)) (by omega) (by omega) (by omega) (by omega)).1
              have v73u : v73.toInt ≤ 1 := by rw [v73x]; exact (ti_orB (ti_rfl l1) (ti_c (v := 1) (a := 1) (by decide)) (by omega) (by omega) (by omega) (by omega)).2
              have k74 := bd_e k72 (so_ior (ti_rfl l1) (ti_c (v := 1) (a := 1) (by decide)) v73x)
              refine go_istore_n (pc := 138) (Nat.le_of_ble_eq_true rfl) dX1_findCertain_138 (go_lv (lv2 := [(0, .ref 57), (1, .int v73), (2, .int l2), (3, .int l3), (4, .long v57)]) rfl ?_)
              refine go_aload_n (pc := 139) rfl dX1_findCertain_139 ?_
              refine gi_getF (pc := 140) (q := 63) hvx fL_X1_27 rfl (Nat.le_of_ble_eq_true rfl) rfl (hvx.rf (by decide)) dX1_findCertain_140 ?_
              refine go_iload_n (pc := 143) rfl dX1_findCertain_143 ?_
              refine go_lload (pc := 144) rfl dX1_findCertain_144 ?_
              refine gi_last (pc := 146) (len := 45) hvx (ti_rfl l3) rfl (by omega) (by omega) dX1_findCertain_146 (fun h75 hv75 hv75e => ?_)
              have fx75 : FX KAc h h75 := FX.pL fxx hv75e (by unfold KAc; omega)
              have k76 := bd_e k74 (st_L hv75e)
              refine gf_iinc (pc := 147) (Nat.le_of_ble_eq_true rfl) rfl (ti_rfl l3) (ti_c (by decide)) (by omega) (by omega) dX1_findCertain_147 (fun v77 e78 => ?_)
              refine go_lv (lv2 := [(0, .ref 57), (1, .int v73), (2, .int l2), (3, .int v77), (4, .long v57)]) rfl ?_
              refine go_goto (pc := 150) (tgt := 60) (by decide) dX1_findCertain_150 ?_
              have z79 : (v77 : Int32).toInt = (l3.toInt + (-1)) := e78
              exact go_lv rfl (ih.2.2 v73 l2 v77 h75 hv75 (by omega) (by omega) (by omega) (by omega) (by omega) (by omega) fx75 (by rw [show (v77 : Int32).toInt = (l3.toInt + (-1)) from e78]; exact k76) (by omega))
          ·
            have k80 := if_f k50 q51
            refine go_lload (pc := 91) rfl dX1_findCertain_91 ?_
            refine go_aload_n (pc := 93) rfl dX1_findCertain_93 ?_
            refine gi_getF (pc := 94) (q := 63) hvx fL_X1_27 rfl (Nat.le_of_ble_eq_true rfl) rfl (hvx.rf (by decide)) dX1_findCertain_94 ?_
            refine go_aload_n (pc := 97) rfl dX1_findCertain_97 ?_
            refine gi_getC (pc := 98) hvx fL_X1_30 rfl (Nat.le_of_ble_eq_true rfl) rfl (by decide) dX1_findCertain_98 (fun c81 hc81 fc81 => ?_)
            have k82 := bd_e k80 (st_c fc81)
            refine gi_getF (pc := 101) (q := c81 + 13) hvx fL_X1_76 (by rcases hc81 with rfl | rfl <;> rfl) (Nat.le_of_ble_eq_true rfl) rfl (by rcases hc81 with rfl | rfl <;> exact hvx.rf (by decide)) dX1_findCertain_101 ?_
            refine go_iload_n (pc := 104) rfl dX1_findCertain_104 ?_
            refine gi_iald (pc := 105) (lo := 0) (hi := 44) (len := 40) hvx (ti_rfl l3) (by rcases hc81 with rfl | rfl <;> rfl) (by omega) (by omega) (fun _ => by rcases hc81 with rfl | rfl <;> rfl) dX1_findCertain_105 (fun v83 v83l v83u v83w => ?_)
            have k84 := bd_e k82 (congrArg Int32.toInt v83w.symm)
            refine gi_lald (pc := 106) (len := 45) hvx (ti_rfl v83) rfl (by omega) (by omega) dX1_findCertain_106 (fun v85 v85w => ?_)
            have k86 := bd_e k84 v85w.symm
            refine gx_land (pc := 107) dX1_findCertain_107 (fun v87 v87x => ?_)
            have k88 := bd_e k86 (so_land v87x)
            refine go_lstore (pc := 108) (Nat.le_of_ble_eq_true rfl) dX1_findCertain_108 (go_lv (lv2 := [(0, .ref 57), (1, .int l1), (2, .int l2), (3, .int l3), (4, .long v87)]) rfl ?_)
            refine go_lload (pc := 110) rfl dX1_findCertain_110 ?_
            refine go_iload_n (pc := 112) rfl dX1_findCertain_112 ?_
            refine go_invS (pc := 113) (sl := 0) (s_X7_bit_f l (d + 1) hvx l3) mL_X1_79 iM_X7_bit rfl rfl (Nat.le_of_ble_eq_true rfl) (show d + 1 + 1 + 1 ≤ d + 3 by omega) (show 8 + (1 + 11) + 40 * (d + 1 + 1) ≤ 40 * (d + 3) by omega) (g_c0 hvx.ln) (Nat.le_of_ble_eq_true rfl) dX1_findCertain_113 ?_
            intro r h89 hq _
            obtain ⟨v91, rfl, rfl, f90⟩ := hq
            have k92 := bd_e k88 f90.symm
            refine gx_lor (pc := 116) dX1_findCertain_116 (fun v93 v93x => ?_)
            have k94 := bd_e k92 (so_lor v93x)
            refine go_lstore (pc := 117) (Nat.le_of_ble_eq_true rfl) dX1_findCertain_117 (go_lv (lv2 := [(0, .ref 57), (1, .int l1), (2, .int l2), (3, .int l3), (4, .long v93)]) rfl ?_)
            refine go_iload_n (pc := 119) rfl dX1_findCertain_119 ?_
            refine go_lload (pc := 120) rfl dX1_findCertain_120 ?_
            refine go_aload_n (pc := 122) rfl dX1_findCertain_122 ?_
            refine gi_getF (pc := 123) (q := 63) hvx fL_X1_27 rfl (Nat.le_of_ble_eq_true rfl) rfl (hvx.rf (by decide)) dX1_findCertain_123 ?_
            refine go_iload_n (pc := 126) rfl dX1_findCertain_126 ?_
            refine gi_lald (pc := 127) (len := 45) hvx (ti_rfl l3) rfl (by omega) (by omega) dX1_findCertain_127 (fun v95 v95w => ?_)
            have k96 := bd_e k94 v95w.symm
            refine gx_lcmp (pc := 128) dX1_findCertain_128 (fun v97 v97x => ?_)
            have k98 := bd_e k96 (so_lcmp v97x)
            refine gf_if_eq (pc := 129) (tgt := 136) (ti_rfl v97) (by decide) dX1_findCertain_129 (fun q99 => ?_) (fun q99 => ?_)
            ·
              have k100 := if_t k98 q99
              refine go_iconst (pc := 136) (v := 0) (by decide) dX1_findCertain_136 ?_
              refine gx_ior (pc := 137) dX1_findCertain_137 (fun v101 v101x => ?_)
              have v101l : 0 ≤ v101.toInt := by rw [v101x]; exact (ti_orB (ti_rfl l1) (ti_c (v := 0) (a := 0) (by decide)) (by omega) (by omega) (by omega) (by omega)).1
              have v101u : v101.toInt ≤ 1 := by rw [v101x]; exact (ti_orB (ti_rfl l1) (ti_c (v := 0) (a := 0) (by decide)) (by omega) (by omega) (by omega) (by omega)).2
              have k102 := bd_e k100 (so_ior (ti_rfl l1) (ti_c (v := 0) (a := 0) (by decide)) v101x)
              refine go_istore_n (pc := 138) (Nat.le_of_ble_eq_true rfl) dX1_findCertain_138 (go_lv (lv2 := [(0, .ref 57), (1, .int v101), (2, .int l2), (3, .int l3), (4, .long v93)]) rfl ?_)
              refine go_aload_n (pc := 139) rfl dX1_findCertain_139 ?_
              refine gi_getF (pc := 140) (q := 63) hvx fL_X1_27 rfl (Nat.le_of_ble_eq_true rfl) rfl (hvx.rf (by decide)) dX1_findCertain_140 ?_
              refine go_iload_n (pc := 143) rfl dX1_findCertain_143 ?_
              refine go_lload (pc := 144) rfl dX1_findCertain_144 ?_
              refine gi_last (pc := 146) (len := 45) hvx (ti_rfl l3) rfl (by omega) (by omega) dX1_findCertain_146 (fun h103 hv103 hv103e => ?_)
              have fx103 : FX KAc h h103 := FX.pL fxx hv103e (by unfold KAc; omega)
              have k104 := bd_e k102 (st_L hv103e)
              refine gf_iinc (pc := 147) (Nat.le_of_ble_eq_true rfl) rfl (ti_rfl l3) (ti_c (by decide)) (by omega) (by omega) dX1_findCertain_147 (fun v105 e106 => ?_)
              refine go_lv (lv2 := [(0, .ref 57), (1, .int v101), (2, .int l2), (3, .int v105), (4, .long v93)]) rfl ?_
              refine go_goto (pc := 150) (tgt := 60) (by decide) dX1_findCertain_150 ?_
              have z107 : (v105 : Int32).toInt = (l3.toInt + (-1)) := e106
              exact go_lv rfl (ih.2.2 v101 l2 v105 h103 hv103 (by omega) (by omega) (by omega) (by omega) (by omega) (by omega) fx103 (by rw [show (v105 : Int32).toInt = (l3.toInt + (-1)) from e106]; exact k104) (by omega))
            ·
              have k108 := if_f k98 q99
              refine go_iconst (pc := 132) (v := 1) (by decide) dX1_findCertain_132 ?_
              refine go_goto (pc := 133) (tgt := 137) (by decide) dX1_findCertain_133 ?_
              refine gx_ior (pc := 137) dX1_findCertain_137 (fun v109 v109x => ?_)
              have v109l : 0 ≤ v109.toInt := by rw [v109x]; exact (ti_orB (ti_rfl l1) (ti_c (v := 1) (a := 1) (by decide)) (by omega) (by omega) (by omega) (by omega)).1
              have v109u : v109.toInt ≤ 1 := by rw [v109x]; exact (ti_orB (ti_rfl l1) (ti_c (v := 1) (a := 1) (by decide)) (by omega) (by omega) (by omega) (by omega)).2
              have k110 := bd_e k108 (so_ior (ti_rfl l1) (ti_c (v := 1) (a := 1) (by decide)) v109x)
              refine go_istore_n (pc := 138) (Nat.le_of_ble_eq_true rfl) dX1_findCertain_138 (go_lv (lv2 := [(0, .ref 57), (1, .int v109), (2, .int l2), (3, .int l3), (4, .long v93)]) rfl ?_)
              refine go_aload_n (pc := 139) rfl dX1_findCertain_139 ?_
              refine gi_getF (pc := 140) (q := 63) hvx fL_X1_27 rfl (Nat.le_of_ble_eq_true rfl) rfl (hvx.rf (by decide)) dX1_findCertain_140 ?_
              refine go_iload_n (pc := 143) rfl dX1_findCertain_143 ?_
              refine go_lload (pc := 144) rfl dX1_findCertain_144 ?_
              refine gi_last (pc := 146) (len := 45) hvx (ti_rfl l3) rfl (by omega) (by omega) dX1_findCertain_146 (fun h111 hv111 hv111e => ?_)
              have fx111 : FX KAc h h111 := FX.pL fxx hv111e (by unfold KAc; omega)
              have k112 := bd_e k110 (st_L hv111e)
              refine gf_iinc (pc := 147) (Nat.le_of_ble_eq_true rfl) rfl (ti_rfl l3) (ti_c (by decide)) (by omega) (by omega) dX1_findCertain_147 (fun v113 e114 => ?_)
              refine go_lv (lv2 := [(0, .ref 57), (1, .int v109), (2, .int l2), (3, .int v113), (4, .long v93)]) rfl ?_
              refine go_goto (pc := 150) (tgt := 60) (by decide) dX1_findCertain_150 ?_
              have z115 : (v113 : Int32).toInt = (l3.toInt + (-1)) := e114
              exact go_lv rfl (ih.2.2 v109 l2 v113 h111 hv111 (by omega) (by omega) (by omega) (by omega) (by omega) (by omega) fx111 (by rw [show (v113 : Int32).toInt = (l3.toInt + (-1)) from e114]; exact k112) (by omega))
  have bgN : 387412 ≤ BG 387412 := BG_le _
  refine go_iconst (pc := 0) (v := 0) (by decide) dX1_findCertain_0 ?_
  refine go_istore_n (pc := 1) (Nat.le_of_ble_eq_true rfl) dX1_findCertain_1 (go_lv (lv2 := [(0, .ref 57), (1, .int 0)]) rfl ?_)
  have z116 : (0 : Int32).toInt = 0 := (ti_c (v := 0) (a := 0) (by decide))
  exact go_lv rfl ((key (BG 387412)).1 0 h hv (by omega) (by omega) fx (by rw [show (0 : Int32).toInt = 0 from (ti_c (v := 0) (a := 0) (by decide))]; exact k0) (by omega))
def f_X1_tieAll2_ : Nat → Nat → Int64 → Int → Int → Int → ST → ST
  | 0, _, _, _, _, _, sx => sx
  | n + 1, _, l1, l3, l4, l5, sx => bd (sx.2.2 57 6) fun c1 => bd (sx.1 c1 0) fun v3 => if v3 ≤ l5 then (sx) else (bd (f_X7_has sx l1 l5) fun v10 => if v10 = 0 then (f_X1_tieAll2_ n 3 l1 l3 l4 ((l5 + 1)) sx) else (bd (f_X7_bit sx l4) fun v20 => bd (f_X1_tie2 sx l5 0 l3 v20) fun s22 => f_X1_tieAll2_ n 3 l1 l3 l4 ((l5 + 1)) s22))
def f_X1_tieAll2 (s : ST) (a2 : Int64) (a3 : Int) (a4 : Int) : ST :=
  f_X1_tieAll2_ 139 3 a2 a3 a4 0 s
set_option maxHeartbeats 4000000 in
set_option maxRecDepth 100000 in
theorem s_X1_tieAll2_f (l : Launch) (d : Nat) {P : PP} {h : HP} (hv : Iv P h) (a2 : Int64) (a3 : Int32) (a3l : 0 ≤ a3.toInt) (a3u : a3.toInt ≤ 12) (a4 : Int32) : Mt l yX1_tieAll cX1_tieAll 6 none (d + 2) [.ref 57, .long a2, .int a3, .int a4] h 0 0 (fun r h' => r = none ∧ Iv P h' ∧ (st h' = f_X1_tieAll2 (st h) a2 a3.toInt a4.toInt) ∧ (FX KAc h h')) := by
  refine Mt_iv hv (by decide) (Nat.le_of_ble_eq_true rfl) ?_
  show Go l RX1 cX1_tieAll 6 (g_rm (d + 2) 0 0) "tieAll" none 117 0 0 (fun _ _ => True) (fun r h' => r = none ∧ Iv P h' ∧ (st h' = f_X1_tieAll2 (st h) a2 a3.toInt a4.toInt) ∧ (FX KAc h h')) 0 0 [(0, .ref 57), (1, .long a2), (3, .int a3), (4, .int a4)] [] h
  have fx : FX KAc h h := FX.rfl
  obtain ⟨fin, kf⟩ : ∃ z, z = f_X1_tieAll2 (st h) a2 a3.toInt a4.toInt := ⟨_, _root_.rfl⟩
  have k0 := kf
  unfold f_X1_tieAll2 at k0
  have key : ∀ n : Nat, (∀ (l1 : Int64) (l3 : Int32) (l4 : Int32) (l5 : Int32) (hx : HP), Iv P hx → 0 ≤ l3.toInt → l3.toInt ≤ 12 → 0 ≤ l5.toInt → l5.toInt ≤ 40 → FX KAc h hx → fin = f_X1_tieAll2_ n 3 l1 l3.toInt l4.toInt l5.toInt (st hx) → (3 * (40 - l5.toInt) + 2 : Int) < n → Go l RX1 cX1_tieAll 6 (g_rm (d + 2) 0 0) "tieAll" none 117 0 0 (fun _ _ => True) (fun r h' => r = none ∧ Iv P h' ∧ (st h' = f_X1_tieAll2 (st h) a2 a3.toInt a4.toInt) ∧ (FX KAc h h')) 0 3 [(0, .ref 57), (1, .long l1), (3, .int l3), (4, .int l4), (5, .int l5)] [] hx) := by
    intro n
    induction n with
    | zero => exact (by intros; omega)
    | succ n ih =>
      refine ?_
      ·
        intro l1 l3 l4 l5 hx hvx l3l l3u l5l l5u fxx kL hm
        rw [f_X1_tieAll2_] at kL
        refine go_iload (pc := 3) rfl dX1_tieAll_3 ?_
        refine go_aload_n (pc := 5) rfl dX1_tieAll_5 ?_
        refine gi_getC (pc := 6) hvx fL_X1_30 rfl (Nat.le_of_ble_eq_true rfl) rfl (by decide) dX1_tieAll_6 (fun c1 hc1 fc1 => ?_)
        have k2 := bd_e kL (st_c fc1)
        refine gi_get (pc := 9) (lo := 0) (hi := 40) hvx fL_X1_62 (by rcases hc1 with rfl | rfl <;> rfl) (Nat.le_of_ble_eq_true rfl) rfl (by rcases hc1 with rfl | rfl <;> rfl) dX1_tieAll_9 (fun v3 v3l v3u v3w => ?_)
        have k4 := bd_e k2 (congrArg Int32.toInt v3w.symm)
        refine gf_icmp_ge (pc := 12) (tgt := 43) (ti_rfl l5) (ti_rfl v3) (by decide) dX1_tieAll_12 (fun q5 => ?_) (fun q5 => ?_)
        ·
          have k6 := if_t k4 q5
          exact gi_vret (pc := 43) ⟨rfl, hvx, (k6.symm.trans kf), fxx⟩ hvx dX1_tieAll_43
        ·
          have k7 := if_f k4 (Int.not_le.mpr q5)
          refine go_lload_n (pc := 15) rfl dX1_tieAll_15 ?_
          refine go_iload (pc := 16) rfl dX1_tieAll_16 ?_
          refine go_invS (pc := 18) (sl := 0) (s_X7_has_f l (d + 0) hvx l1 l5) mL_X1_56 iM_X7_has rfl rfl (Nat.le_of_ble_eq_true rfl) (show d + 0 + 1 + 1 ≤ d + 2 by omega) (show 8 + (3 + 11) + 40 * (d + 0 + 1) ≤ 40 * (d + 2) by omega) (g_c0 hvx.ln) (Nat.le_of_ble_eq_true rfl) dX1_tieAll_18 ?_
          intro r h8 hq _
          obtain ⟨v10, rfl, v10l, v10u, rfl, f9⟩ := hq
          replace f9 : PE _ _ := f9
          have k11 := bd_e k7 f9.symm
          refine gf_if_eq (pc := 21) (tgt := 37) (ti_rfl v10) (by decide) dX1_tieAll_21 (fun q12 => ?_) (fun q12 => ?_)
          ·
            have k13 := if_t k11 q12
            refine gf_iinc (pc := 37) (Nat.le_of_ble_eq_true rfl) rfl (ti_rfl l5) (ti_c (by decide)) (by omega) (by omega) dX1_tieAll_37 (fun v14 e15 => ?_)
            refine go_lv (lv2 := [(0, .ref 57), (1, .long l1), (3, .int l3), (4, .int l4), (5, .int v14)]) rfl ?_
            refine go_goto (pc := 40) (tgt := 3) (by decide) dX1_tieAll_40 ?_
            have z16 : (v14 : Int32).toInt = (l5.toInt + 1) := e15
            exact go_lv rfl (ih l1 l3 l4 v14 hx hvx (by omega) (by omega) (by omega) (by omega) fxx (by rw [show (v14 : Int32).toInt = (l5.toInt + 1) from e15]; exact k13) (by omega))
          ·
            have k17 := if_f k11 q12
            refine go_aload_n (pc := 24) rfl dX1_tieAll_24 ?_
            refine go_iload (pc := 25) rfl dX1_tieAll_25 ?_
            refine go_iconst (pc := 27) (v := 0) (by decide) dX1_tieAll_27 ?_
            refine go_iload_n (pc := 28) rfl dX1_tieAll_28 ?_
            refine go_iload (pc := 29) rfl dX1_tieAll_29 ?_
            refine go_invS (pc := 31) (sl := 0) (s_X7_bit_f l (d + 0) hvx l4) mL_X1_79 iM_X7_bit rfl rfl (Nat.le_of_ble_eq_true rfl) (show d + 0 + 1 + 1 ≤ d + 2 by omega) (show 8 + (1 + 11) + 40 * (d + 0 + 1) ≤ 40 * (d + 2) by omega) (g_c0 hvx.ln) (Nat.le_of_ble_eq_true rfl) dX1_tieAll_31 ?_
            intro r h18 hq _
            obtain ⟨v20, rfl, rfl, f19⟩ := hq
            have k21 := bd_e k17 f19.symm
            refine go_invV (pc := 34) (sl := 0) (s_X1_tie2_f l (d + 0) hvx l5 (by rw [show (l5 : Int32).toInt = l5.toInt from (ti_rfl l5)]; omega) (by rw [show (l5 : Int32).toInt = l5.toInt from (ti_rfl l5)]; omega) 0 (by rw [show (0 : Int32).toInt = 0 from (ti_c (v := 0) (a := 0) (by decide))]; omega) (by rw [show (0 : Int32).toInt = 0 from (ti_c (v := 0) (a := 0) (by decide))]; omega) l3 (by rw [show (l3 : Int32).toInt = l3.toInt from (ti_rfl l3)]; omega) (by rw [show (l3 : Int32).toInt = l3.toInt from (ti_rfl l3)]; omega) v20) mL_X1_103 iM_X1_tie sM_X1_tie (hvx.sh rfl) rfl rfl rfl (Nat.le_of_ble_eq_true rfl) (show d + 0 + 1 + 1 ≤ d + 2 by omega) (show 8 + (6 + 11) + 40 * (d + 0 + 1) ≤ 40 * (d + 2) by omega) (g_c0 hvx.ln) (Nat.le_of_ble_eq_true rfl) dX1_tieAll_34 ?_
            intro r h22 hq _
            obtain ⟨rfl, hv22, f23, f24⟩ := hq
            try rw [show (0 : Int32).toInt = 0 from (ti_c (v := 0) (a := 0) (by decide))] at f23
            try rw [show (0 : Int32).toInt = 0 from (ti_c (v := 0) (a := 0) (by decide))] at f24
            have fx22 : FX KAc h h22 := FX.tr fxx f24
            have k25 := bd_e k21 f23.symm
            refine gf_iinc (pc := 37) (Nat.le_of_ble_eq_true rfl) rfl (ti_rfl l5) (ti_c (by decide)) (by omega) (by omega) dX1_tieAll_37 (fun v26 e27 => ?_)
            refine go_lv (lv2 := [(0, .ref 57), (1, .long l1), (3, .int l3), (4, .int l4), (5, .int v26)]) rfl ?_
            refine go_goto (pc := 40) (tgt := 3) (by decide) dX1_tieAll_40 ?_
            have z28 : (v26 : Int32).toInt = (l5.toInt + 1) := e27
            exact go_lv rfl (ih l1 l3 l4 v26 h22 hv22 (by omega) (by omega) (by omega) (by omega) fx22 (by rw [show (v26 : Int32).toInt = (l5.toInt + 1) from e27]; exact k25) (by omega))
  refine go_iconst (pc := 0) (v := 0) (by decide) dX1_tieAll_0 ?_
  refine go_istore (pc := 1) (Nat.le_of_ble_eq_true rfl) dX1_tieAll_1 (go_lv (lv2 := [(0, .ref 57), (1, .long a2), (3, .int a3), (4, .int a4), (5, .int 0)]) rfl ?_)
  have z29 : (0 : Int32).toInt = 0 := (ti_c (v := 0) (a := 0) (by decide))
  exact go_lv rfl ((key 139) a2 a3 a4 0 h hv (by omega) (by omega) (by omega) (by omega) fx (by rw [show (0 : Int32).toInt = 0 from (ti_c (v := 0) (a := 0) (by decide))]; exact k0) (by omega))
def f_X1_tieDecided2_ : Nat → Nat → Int → Int64 → Int → ST → ST
  | 0, _, _, _, _, sx => sx
  | n + 1, _, l1, l2, l4, sx => bd (sx.2.2 57 6) fun c1 => bd (sx.1 c1 0) fun v3 => if v3 ≤ l4 then (sx) else (bd (f_X7_has sx l2 l4) fun v10 => if v10 = 0 then (f_X1_tieDecided2_ n 28 l1 l2 ((l4 + 1)) sx) else (bd (sx.2.1 60 (l4).toNat) fun v18 => bd (f_X7_bit sx l1) fun v22 => bd (o_lor v18 v22) fun v24 => bd (sL sx 60 (l4).toNat v24) fun s26 => f_X1_tieDecided2_ n 28 l1 l2 ((l4 + 1)) s26))
def f_X1_tieDecided2 (s : ST) (a2 : Int) (a3 : Int64) : ST :=
  bd (s.2.2 57 6) fun c31 => bd (s.1 (c31 + 2) (a2).toNat) fun v33 => if ¬ v33 = 1 then (bd (f_X1_tieAll2 s a3 0 a2) fun s37 => f_X1_tieDecided2_ 139 28 a2 a3 0 s37) else (bd (f_X1_tieAll2 s a3 8 a2) fun s43 => f_X1_tieDecided2_ 139 28 a2 a3 0 s43)
set_option maxHeartbeats 4000000 in
set_option maxRecDepth 100000 in
theorem s_X1_tieDecided2_f (l : Launch) (d : Nat) {P : PP} {h : HP} (hv : Iv P h) (a2 : Int32) (a2l : 0 ≤ a2.toInt) (a2u : a2.toInt ≤ 39) (a3 : Int64) : Mt l yX1_tieDecided cX1_tieDecided 5 none (d + 3) [.ref 57, .int a2, .long a3] h 0 0 (fun r h' => r = none ∧ Iv P h' ∧ (st h' = f_X1_tieDecided2 (st h) a2.toInt a3) ∧ (FX KAc h h')) := by
  refine Mt_iv hv (by decide) (Nat.le_of_ble_eq_true rfl) ?_
  show Go l RX1 cX1_tieDecided 5 (g_rm (d + 3) 0 0) "tieDecided" none 117 0 0 (fun _ _ => True) (fun r h' => r = none ∧ Iv P h' ∧ (st h' = f_X1_tieDecided2 (st h) a2.toInt a3) ∧ (FX KAc h h')) 0 0 [(0, .ref 57), (1, .int a2), (2, .long a3)] [] h
  have fx : FX KAc h h := FX.rfl
  obtain ⟨fin, kf⟩ : ∃ z, z = f_X1_tieDecided2 (st h) a2.toInt a3 := ⟨_, _root_.rfl⟩
  have k0 := kf
  unfold f_X1_tieDecided2 at k0
  have key : ∀ n : Nat, (∀ (l1 : Int32) (l2 : Int64) (l4 : Int32) (hx : HP), Iv P hx → 0 ≤ l1.toInt → l1.toInt ≤ 39 → 0 ≤ l4.toInt → l4.toInt ≤ 40 → FX KAc h hx → fin = f_X1_tieDecided2_ n 28 l1.toInt l2 l4.toInt (st hx) → (3 * (40 - l4.toInt) + 2 : Int) < n → Go l RX1 cX1_tieDecided 5 (g_rm (d + 3) 0 0) "tieDecided" none 117 0 0 (fun _ _ => True) (fun r h' => r = none ∧ Iv P h' ∧ (st h' = f_X1_tieDecided2 (st h) a2.toInt a3) ∧ (FX KAc h h')) 0 28 [(0, .ref 57), (1, .int l1), (2, .long l2), (4, .int l4)] [] hx) := by
    intro n
    induction n with
    | zero => exact (by intros; omega)
    | succ n ih =>
      refine ?_
      ·
        intro l1 l2 l4 hx hvx l1l l1u l4l l4u fxx kL hm
        rw [f_X1_tieDecided2_] at kL
        refine go_iload (pc := 28) rfl dX1_tieDecided_28 ?_
        refine go_aload_n (pc := 30) rfl dX1_tieDecided_30 ?_
        refine gi_getC (pc := 31) hvx fL_X1_30 rfl (Nat.le_of_ble_eq_true rfl) rfl (by decide) dX1_tieDecided_31 (fun c1 hc1 fc1 => ?_)
        have k2 := bd_e kL (st_c fc1)
        refine gi_get (pc := 34) (lo := 0) (hi := 40) hvx fL_X1_62 (by rcases hc1 with rfl | rfl <;> rfl) (Nat.le_of_ble_eq_true rfl) rfl (by rcases hc1 with rfl | rfl <;> rfl) dX1_tieDecided_34 (fun v3 v3l v3u v3w => ?_)
        have k4 := bd_e k2 (congrArg Int32.toInt v3w.symm)
        refine gf_icmp_ge (pc := 37) (tgt := 69) (ti_rfl l4) (ti_rfl v3) (by decide) dX1_tieDecided_37 (fun q5 => ?_) (fun q5 => ?_)
        ·
          have k6 := if_t k4 q5
          exact gi_vret (pc := 69) ⟨rfl, hvx, (k6.symm.trans kf), fxx⟩ hvx dX1_tieDecided_69
        ·
          have k7 := if_f k4 (Int.not_le.mpr q5)
          refine go_lload_n (pc := 40) rfl dX1_tieDecided_40 ?_
          refine go_iload (pc := 41) rfl dX1_tieDecided_41 ?_
          refine go_invS (pc := 43) (sl := 0) (s_X7_has_f l (d + 1) hvx l2 l4) mL_X1_56 iM_X7_has rfl rfl (Nat.le_of_ble_eq_true rfl) (show d + 1 + 1 + 1 ≤ d + 3 by omega) (show 8 + (3 + 11) + 40 * (d + 1 + 1) ≤ 40 * (d + 3) by omega) (g_c0 hvx.ln) (Nat.le_of_ble_eq_true rfl) dX1_tieDecided_43 ?_
          intro r h8 hq _
          obtain ⟨v10, rfl, v10l, v10u, rfl, f9⟩ := hq
          replace f9 : PE _ _ := f9
          have k11 := bd_e k7 f9.symm
          refine gf_if_eq (pc := 46) (tgt := 63) (ti_rfl v10) (by decide) dX1_tieDecided_46 (fun q12 => ?_) (fun q12 => ?_)
          ·
            have k13 := if_t k11 q12
            refine gf_iinc (pc := 63) (Nat.le_of_ble_eq_true rfl) rfl (ti_rfl l4) (ti_c (by decide)) (by omega) (by omega) dX1_tieDecided_63 (fun v14 e15 => ?_)
            refine go_lv (lv2 := [(0, .ref 57), (1, .int l1), (2, .long l2), (4, .int v14)]) rfl ?_
            refine go_goto (pc := 66) (tgt := 28) (by decide) dX1_tieDecided_66 ?_
            have z16 : (v14 : Int32).toInt = (l4.toInt + 1) := e15
            exact go_lv rfl (ih l1 l2 v14 hx hvx (by omega) (by omega) (by omega) (by omega) fxx (by rw [show (v14 : Int32).toInt = (l4.toInt + 1) from e15]; exact k13) (by omega))
          ·
            have k17 := if_f k11 q12
            refine go_aload_n (pc := 49) rfl dX1_tieDecided_49 ?_
            refine gi_getF (pc := 50) (q := 60) hvx fL_X1_18 rfl (Nat.le_of_ble_eq_true rfl) rfl (hvx.rf (by decide)) dX1_tieDecided_50 ?_
            refine go_iload (pc := 53) rfl dX1_tieDecided_53 ?_
            refine go_dup2 (pc := 55) rfl rfl dX1_tieDecided_55 ?_
            refine gi_lald (pc := 56) (len := 40) hvx (ti_rfl l4) rfl (by omega) (by omega) dX1_tieDecided_56 (fun v18 v18w => ?_)
            have k19 := bd_e k17 v18w.symm
            refine go_iload_n (pc := 57) rfl dX1_tieDecided_57 ?_
            refine go_invS (pc := 58) (sl := 0) (s_X7_bit_f l (d + 1) hvx l1) mL_X1_79 iM_X7_bit rfl rfl (Nat.le_of_ble_eq_true rfl) (show d + 1 + 1 + 1 ≤ d + 3 by omega) (show 8 + (1 + 11) + 40 * (d + 1 + 1) ≤ 40 * (d + 3) by omega) (g_c0 hvx.ln) (Nat.le_of_ble_eq_true rfl) dX1_tieDecided_58 ?_
            intro r h20 hq _
            obtain ⟨v22, rfl, rfl, f21⟩ := hq
            have k23 := bd_e k19 f21.symm
            refine gx_lor (pc := 61) dX1_tieDecided_61 (fun v24 v24x => ?_)
            have k25 := bd_e k23 (so_lor v24x)
            refine gi_last (pc := 62) (len := 40) hvx (ti_rfl l4) rfl (by omega) (by omega) dX1_tieDecided_62 (fun h26 hv26 hv26e => ?_)
            have fx26 : FX KAc h h26 := FX.pL fxx hv26e (by unfold KAc; omega)
            have k27 := bd_e k25 (st_L hv26e)
            refine gf_iinc (pc := 63) (Nat.le_of_ble_eq_true rfl) rfl (ti_rfl l4) (ti_c (by decide)) (by omega) (by omega) dX1_tieDecided_63 (fun v28 e29 => ?_)
            refine go_lv (lv2 := [(0, .ref 57), (1, .int l1), (2, .long l2), (4, .int v28)]) rfl ?_
            refine go_goto (pc := 66) (tgt := 28) (by decide) dX1_tieDecided_66 ?_
            have z30 : (v28 : Int32).toInt = (l4.toInt + 1) := e29
            exact go_lv rfl (ih l1 l2 v28 h26 hv26 (by omega) (by omega) (by omega) (by omega) fx26 (by rw [show (v28 : Int32).toInt = (l4.toInt + 1) from e29]; exact k27) (by omega))
  refine go_aload_n (pc := 0) rfl dX1_tieDecided_0 ?_
  refine go_lload_n (pc := 1) rfl dX1_tieDecided_1 ?_
  refine go_aload_n (pc := 2) rfl dX1_tieDecided_2 ?_
  refine gi_getC (pc := 3) hv fL_X1_30 rfl (Nat.le_of_ble_eq_true rfl) rfl (by decide) dX1_tieDecided_3 (fun c31 hc31 fc31 => ?_)
  have k32 := bd_e k0 (st_c fc31)
  refine gi_getF (pc := 6) (q := c31 + 2) hv fL_X1_100 (by rcases hc31 with rfl | rfl <;> rfl) (Nat.le_of_ble_eq_true rfl) rfl (by rcases hc31 with rfl | rfl <;> exact hv.rf (by decide)) dX1_tieDecided_6 ?_
  refine go_iload_n (pc := 9) rfl dX1_tieDecided_9 ?_
  refine gi_iald (pc := 10) (lo := 0) (hi := 5) (len := 40) hv (ti_rfl a2) (by rcases hc31 with rfl | rfl <;> rfl) (by omega) (by omega) (fun _ => by rcases hc31 with rfl | rfl <;> rfl) dX1_tieDecided_10 (fun v33 v33l v33u v33w => ?_)
  have k34 := bd_e k32 (congrArg Int32.toInt v33w.symm)
  refine go_iconst (pc := 11) (v := 1) (by decide) dX1_tieDecided_11 ?_
  refine gf_icmp_ne (pc := 12) (tgt := 20) (ti_rfl v33) (ti_c (v := 1) (a := 1) (by decide)) (by decide) dX1_tieDecided_12 (fun q35 => ?_) (fun q35 => ?_)
  ·
    have k36 := if_t k34 q35
    refine go_iconst (pc := 20) (v := 0) (by decide) dX1_tieDecided_20 ?_
    refine go_iload_n (pc := 21) rfl dX1_tieDecided_21 ?_
    refine go_invV (pc := 22) (sl := 0) (s_X1_tieAll2_f l (d + 0) hv a3 0 (by rw [show (0 : Int32).toInt = 0 from (ti_c (v := 0) (a := 0) (by decide))]; omega) (by rw [show (0 : Int32).toInt = 0 from (ti_c (v := 0) (a := 0) (by decide))]; omega) a2) mL_X1_96 iM_X1_tieAll sM_X1_tieAll (hv.sh rfl) rfl rfl rfl (Nat.le_of_ble_eq_true rfl) (show d + 0 + 2 + 1 ≤ d + 3 by omega) (show 8 + (6 + 11) + 40 * (d + 0 + 2) ≤ 40 * (d + 3) by omega) (g_c0 hv.ln) (Nat.le_of_ble_eq_true rfl) dX1_tieDecided_22 ?_
    intro r h37 hq _
    obtain ⟨rfl, hv37, f38, f39⟩ := hq
    try rw [show (0 : Int32).toInt = 0 from (ti_c (v := 0) (a := 0) (by decide))] at f38
    try rw [show (0 : Int32).toInt = 0 from (ti_c (v := 0) (a := 0) (by decide))] at f39
    have fx37 : FX KAc h h37 := FX.tr fx f39
    have k40 := bd_e k36 f38.symm
    refine go_iconst (pc := 25) (v := 0) (by decide) dX1_tieDecided_25 ?_
    refine go_istore (pc := 26) (Nat.le_of_ble_eq_true rfl) dX1_tieDecided_26 (go_lv (lv2 := [(0, .ref 57), (1, .int a2), (2, .long a3), (4, .int 0)]) rfl ?_)
    have z41 : (0 : Int32).toInt = 0 := (ti_c (v := 0) (a := 0) (by decide))
    exact go_lv rfl ((key 139) a2 a3 0 h37 hv37 (by omega) (by omega) (by omega) (by omega) fx37 (by rw [show (0 : Int32).toInt = 0 from (ti_c (v := 0) (a := 0) (by decide))]; exact k40) (by omega))
  ·
    have k42 := if_f k34 (fun z => z q35)
    refine go_bipush (pc := 15) (v := 8) (by decide) dX1_tieDecided_15 ?_
    refine go_goto (pc := 17) (tgt := 21) (by decide) dX1_tieDecided_17 ?_
    refine go_iload_n (pc := 21) rfl dX1_tieDecided_21 ?_
    refine go_invV (pc := 22) (sl := 0) (s_X1_tieAll2_f l (d + 0) hv a3 8 (by rw [show (8 : Int32).toInt = 8 from (ti_c (v := 8) (a := 8) (by decide))]; omega) (by rw [show (8 : Int32).toInt = 8 from (ti_c (v := 8) (a := 8) (by decide))]; omega) a2) mL_X1_96 iM_X1_tieAll sM_X1_tieAll (hv.sh rfl) rfl rfl rfl (Nat.le_of_ble_eq_true rfl) (show d + 0 + 2 + 1 ≤ d + 3 by omega) (show 8 + (6 + 11) + 40 * (d + 0 + 2) ≤ 40 * (d + 3) by omega) (g_c0 hv.ln) (Nat.le_of_ble_eq_true rfl) dX1_tieDecided_22 ?_
    intro r h43 hq _
    obtain ⟨rfl, hv43, f44, f45⟩ := hq
    try rw [show (8 : Int32).toInt = 8 from (ti_c (v := 8) (a := 8) (by decide))] at f44
    try rw [show (8 : Int32).toInt = 8 from (ti_c (v := 8) (a := 8) (by decide))] at f45
    have fx43 : FX KAc h h43 := FX.tr fx f45
    have k46 := bd_e k42 f44.symm
    refine go_iconst (pc := 25) (v := 0) (by decide) dX1_tieDecided_25 ?_
    refine go_istore (pc := 26) (Nat.le_of_ble_eq_true rfl) dX1_tieDecided_26 (go_lv (lv2 := [(0, .ref 57), (1, .int a2), (2, .long a3), (4, .int 0)]) rfl ?_)
    have z47 : (0 : Int32).toInt = 0 := (ti_c (v := 0) (a := 0) (by decide))
    exact go_lv rfl ((key 139) a2 a3 0 h43 hv43 (by omega) (by omega) (by omega) (by omega) fx43 (by rw [show (0 : Int32).toInt = 0 from (ti_c (v := 0) (a := 0) (by decide))]; exact k46) (by omega))
noncomputable def f_X1_tieByWay2_ : Nat → Nat → Int → ST → ST
  | 0, _, _, sx => sx
  | n + 1, lab, l1, sx => if lab = 6 then (bd (sx.2.2 57 6) fun c1 => bd (sx.1 c1 0) fun v3 => if v3 ≤ l1 then (f_X1_tieByWay2_ n 70 0 sx) else (bd (sx.2.2 57 6) fun c9 => bd (f_X0_decides sx c9 l1) fun v13 => if v13 = 0 then (f_X1_tieByWay2_ n 6 ((l1 + 1)) sx) else (bd (sx.2.2 57 6) fun c21 => bd (sx.1 (c21 + 12) (l1).toNat) fun v23 => bd (sx.2.1 63 (v23).toNat) fun v25 => bd (sx.2.2 57 6) fun c27 => bd (sx.1 (c27 + 13) (l1).toNat) fun v29 => bd (sx.2.1 63 (v29).toNat) fun v31 => bd (o_lxor v25 v31) fun v33 => bd (f_X1_tieDecided2 sx l1 v33) fun s35 => f_X1_tieByWay2_ n 6 ((l1 + 1)) s35))) else bd (sx.2.2 57 6) fun c42 => bd (sx.1 c42 1) fun v44 => if v44 ≤ l1 then (sx) else (bd (sx.2.2 57 6) fun c49 => bd (sx.1 (c49 + 1) (l1).toNat) fun v51 => bd (sx.2.1 63 (v51).toNat) fun v53 => bd (sL sx 61 (l1).toNat v53) fun s55 => bd (s55.2.1 61 (l1).toNat) fun v57 => bd (f_X1_tieAll2 s55 v57 0 ((40 + l1))) fun s61 => f_X1_tieByWay2_ n 70 ((l1 + 1)) s61)
noncomputable def f_X1_tieByWay2 (s : ST) : ST :=
  bd (f_X1_findCertain2 s) fun s68 => f_X1_tieByWay2_ 160 6 0 s68
set_option maxHeartbeats 4000000 in
set_option maxRecDepth 100000 in
theorem s_X1_tieByWay2_f (l : Launch) (d : Nat) {P : PP} {h : HP} (hv : Iv P h)  : Mt l yX1_tieByWay cX1_tieByWay 2 none (d + 4) [.ref 57] h 0 0 (fun r h' => r = none ∧ Iv P h' ∧ (st h' = f_X1_tieByWay2 (st h)) ∧ (FX KAc h h')) := by
  refine Mt_iv hv (by decide) (Nat.le_of_ble_eq_true rfl) ?_
  show Go l RX1 cX1_tieByWay 2 (g_rm (d + 4) 0 0) "tieByWay" none 117 0 0 (fun _ _ => True) (fun r h' => r = none ∧ Iv P h' ∧ (st h' = f_X1_tieByWay2 (st h)) ∧ (FX KAc h h')) 0 0 [(0, .ref 57)] [] h
  have fx : FX KAc h h := FX.rfl
  obtain ⟨fin, kf⟩ : ∃ z, z = f_X1_tieByWay2 (st h) := ⟨_, _root_.rfl⟩
  have k0 := kf
  unfold f_X1_tieByWay2 at k0
  have key : ∀ n : Nat, (∀ (l1 : Int32) (hx : HP), Iv P hx → 0 ≤ l1.toInt → l1.toInt ≤ 40 → FX KAc h hx → fin = f_X1_tieByWay2_ n 6 l1.toInt (st hx) → (3 * (40 - l1.toInt) + 23 : Int) < n → Go l RX1 cX1_tieByWay 2 (g_rm (d + 4) 0 0) "tieByWay" none 117 0 0 (fun _ _ => True) (fun r h' => r = none ∧ Iv P h' ∧ (st h' = f_X1_tieByWay2 (st h)) ∧ (FX KAc h h')) 0 6 [(0, .ref 57), (1, .int l1)] [] hx) ∧ (∀ (l1 : Int32) (hx : HP), Iv P hx → 0 ≤ l1.toInt → l1.toInt ≤ 5 → FX KAc h hx → fin = f_X1_tieByWay2_ n 70 l1.toInt (st hx) → (3 * (5 - l1.toInt) + 2 : Int) < n → Go l RX1 cX1_tieByWay 2 (g_rm (d + 4) 0 0) "tieByWay" none 117 0 0 (fun _ _ => True) (fun r h' => r = none ∧ Iv P h' ∧ (st h' = f_X1_tieByWay2 (st h)) ∧ (FX KAc h h')) 0 70 [(0, .ref 57), (1, .int l1)] [] hx) := by
    intro n
    induction n with
    | zero => exact ⟨(by intros; omega), (by intros; omega)⟩
    | succ n ih =>
      refine ⟨?_, ?_⟩
      ·
        intro l1 hx hvx l1l l1u fxx kL hm
        rw [f_X1_tieByWay2_] at kL
        replace kL := if_t kL _root_.rfl
        refine go_iload_n (pc := 6) rfl dX1_tieByWay_6 ?_
        refine go_aload_n (pc := 7) rfl dX1_tieByWay_7 ?_
        refine gi_getC (pc := 8) hvx fL_X1_30 rfl (Nat.le_of_ble_eq_true rfl) rfl (by decide) dX1_tieByWay_8 (fun c1 hc1 fc1 => ?_)
        have k2 := bd_e kL (st_c fc1)
        refine gi_get (pc := 11) (lo := 0) (hi := 40) hvx fL_X1_62 (by rcases hc1 with rfl | rfl <;> rfl) (Nat.le_of_ble_eq_true rfl) rfl (by rcases hc1 with rfl | rfl <;> rfl) dX1_tieByWay_11 (fun v3 v3l v3u v3w => ?_)
        have k4 := bd_e k2 (congrArg Int32.toInt v3w.symm)
        refine gf_icmp_ge (pc := 14) (tgt := 68) (ti_rfl l1) (ti_rfl v3) (by decide) dX1_tieByWay_14 (fun q5 => ?_) (fun q5 => ?_)
        ·
          have k6 := if_t k4 q5
          refine go_iconst (pc := 68) (v := 0) (by decide) dX1_tieByWay_68 ?_
          refine go_istore_n (pc := 69) (Nat.le_of_ble_eq_true rfl) dX1_tieByWay_69 (go_lv (lv2 := [(0, .ref 57), (1, .int 0)]) rfl ?_)
          have z7 : (0 : Int32).toInt = 0 := (ti_c (v := 0) (a := 0) (by decide))
          exact go_lv rfl (ih.2 0 hx hvx (by omega) (by omega) fxx (by rw [show (0 : Int32).toInt = 0 from (ti_c (v := 0) (a := 0) (by decide))]; exact k6) (by omega))
        ·
          have k8 := if_f k4 (Int.not_le.mpr q5)
          refine go_aload_n (pc := 17) rfl dX1_tieByWay_17 ?_
          refine gi_getC (pc := 18) hvx fL_X1_30 rfl (Nat.le_of_ble_eq_true rfl) rfl (by decide) dX1_tieByWay_18 (fun c9 hc9 fc9 => ?_)
          have k10 := bd_e k8 (st_c fc9)
          refine go_iload_n (pc := 21) rfl dX1_tieByWay_21 ?_
          refine go_invV (pc := 22) (sl := 0) (s_X0_decides_f l (d + 1) hvx c9 hc9 l1 (by rw [show (l1 : Int32).toInt = l1.toInt from (ti_rfl l1)]; omega) (by rw [show (l1 : Int32).toInt = l1.toInt from (ti_rfl l1)]; omega)) mL_X1_72 iM_X0_decides sM_X0_decides (hvx.sh (by rcases hc9 with rfl | rfl <;> rfl)) rfl rfl rfl (Nat.le_of_ble_eq_true rfl) (show d + 1 + 2 + 1 ≤ d + 4 by omega) (show 8 + (2 + 11) + 40 * (d + 1 + 2) ≤ 40 * (d + 4) by omega) (g_c0 hvx.ln) (Nat.le_of_ble_eq_true rfl) dX1_tieByWay_22 ?_
          intro r h11 hq _
          obtain ⟨v13, rfl, v13l, v13u, rfl, f12⟩ := hq
          replace f12 : PE _ _ := f12
          have k14 := bd_e k10 f12.symm
          refine gf_if_eq (pc := 25) (tgt := 62) (ti_rfl v13) (by decide) dX1_tieByWay_25 (fun q15 => ?_) (fun q15 => ?_)
          ·
            have k16 := if_t k14 q15
            refine gf_iinc (pc := 62) (Nat.le_of_ble_eq_true rfl) rfl (ti_rfl l1) (ti_c (by decide)) (by omega) (by omega) dX1_tieByWay_62 (fun v17 e18 => ?_)
            refine go_lv (lv2 := [(0, .ref 57), (1, .int v17)]) rfl ?_
            refine go_goto (pc := 65) (tgt := 6) (by decide) dX1_tieByWay_65 ?_
            have z19 : (v17 : Int32).toInt = (l1.toInt + 1) := e18
            exact go_lv rfl (ih.1 v17 hx hvx (by omega) (by omega) fxx (by rw [show (v17 : Int32).toInt = (l1.toInt + 1) from e18]; exact k16) (by omega))
          ·
            have k20 := if_f k14 q15
            refine go_aload_n (pc := 28) rfl dX1_tieByWay_28 ?_
            refine go_iload_n (pc := 29) rfl dX1_tieByWay_29 ?_
            refine go_aload_n (pc := 30) rfl dX1_tieByWay_30 ?_
            refine gi_getF (pc := 31) (q := 63) hvx fL_X1_27 rfl (Nat.le_of_ble_eq_true rfl) rfl (hvx.rf (by decide)) dX1_tieByWay_31 ?_
            refine go_aload_n (pc := 34) rfl dX1_tieByWay_34 ?_
            refine gi_getC (pc := 35) hvx fL_X1_30 rfl (Nat.le_of_ble_eq_true rfl) rfl (by decide) dX1_tieByWay_35 (fun c21 hc21 fc21 => ?_)
            have k22 := bd_e k20 (st_c fc21)
            refine gi_getF (pc := 38) (q := c21 + 12) hvx fL_X1_68 (by rcases hc21 with rfl | rfl <;> rfl) (Nat.le_of_ble_eq_true rfl) rfl (by rcases hc21 with rfl | rfl <;> exact hvx.rf (by decide)) dX1_tieByWay_38 ?_
            refine go_iload_n (pc := 41) rfl dX1_tieByWay_41 ?_
            refine gi_iald (pc := 42) (lo := 0) (hi := 44) (len := 40) hvx (ti_rfl l1) (by rcases hc21 with rfl | rfl <;> rfl) (by omega) (by omega) (fun _ => by rcases hc21 with rfl | rfl <;> rfl) dX1_tieByWay_42 (fun v23 v23l v23u v23w => ?_)
            have k24 := bd_e k22 (congrArg Int32.toInt v23w.symm)
            refine gi_lald (pc := 43) (len := 45) hvx (ti_rfl v23) rfl (by omega) (by omega) dX1_tieByWay_43 (fun v25 v25w => ?_)
            have k26 := bd_e k24 v25w.symm
            refine go_aload_n (pc := 44) rfl dX1_tieByWay_44 ?_
            refine gi_getF (pc := 45) (q := 63) hvx fL_X1_27 rfl (Nat.le_of_ble_eq_true rfl) rfl (hvx.rf (by decide)) dX1_tieByWay_45 ?_
            refine go_aload_n (pc := 48) rfl dX1_tieByWay_48 ?_
            refine gi_getC (pc := 49) hvx fL_X1_30 rfl (Nat.le_of_ble_eq_true rfl) rfl (by decide) dX1_tieByWay_49 (fun c27 hc27 fc27 => ?_)
            have k28 := bd_e k26 (st_c fc27)
            refine gi_getF (pc := 52) (q := c27 + 13) hvx fL_X1_76 (by rcases hc27 with rfl | rfl <;> rfl) (Nat.le_of_ble_eq_true rfl) rfl (by rcases hc27 with rfl | rfl <;> exact hvx.rf (by decide)) dX1_tieByWay_52 ?_
            refine go_iload_n (pc := 55) rfl dX1_tieByWay_55 ?_
            refine gi_iald (pc := 56) (lo := 0) (hi := 44) (len := 40) hvx (ti_rfl l1) (by rcases hc27 with rfl | rfl <;> rfl) (by omega) (by omega) (fun _ => by rcases hc27 with rfl | rfl <;> rfl) dX1_tieByWay_56 (fun v29 v29l v29u v29w => ?_)
            have k30 := bd_e k28 (congrArg Int32.toInt v29w.symm)
            refine gi_lald (pc := 57) (len := 45) hvx (ti_rfl v29) rfl (by omega) (by omega) dX1_tieByWay_57 (fun v31 v31w => ?_)
            have k32 := bd_e k30 v31w.symm
            refine gx_lxor (pc := 58) dX1_tieByWay_58 (fun v33 v33x => ?_)
            have k34 := bd_e k32 (so_lxor v33x)
            refine go_invV (pc := 59) (sl := 0) (s_X1_tieDecided2_f l (d + 0) hvx l1 (by rw [show (l1 : Int32).toInt = l1.toInt from (ti_rfl l1)]; omega) (by rw [show (l1 : Int32).toInt = l1.toInt from (ti_rfl l1)]; omega) v33) mL_X1_86 iM_X1_tieDecided sM_X1_tieDecided (hvx.sh rfl) rfl rfl rfl (Nat.le_of_ble_eq_true rfl) (show d + 0 + 3 + 1 ≤ d + 4 by omega) (show 8 + (5 + 11) + 40 * (d + 0 + 3) ≤ 40 * (d + 4) by omega) (g_c0 hvx.ln) (Nat.le_of_ble_eq_true rfl) dX1_tieByWay_59 ?_
            intro r h35 hq _
            obtain ⟨rfl, hv35, f36, f37⟩ := hq
            have fx35 : FX KAc h h35 := FX.tr fxx f37
            have k38 := bd_e k34 f36.symm
            refine gf_iinc (pc := 62) (Nat.le_of_ble_eq_true rfl) rfl (ti_rfl l1) (ti_c (by decide)) (by omega) (by omega) dX1_tieByWay_62 (fun v39 e40 => ?_)
            refine go_lv (lv2 := [(0, .ref 57), (1, .int v39)]) rfl ?_
            refine go_goto (pc := 65) (tgt := 6) (by decide) dX1_tieByWay_65 ?_
            have z41 : (v39 : Int32).toInt = (l1.toInt + 1) := e40
            exact go_lv rfl (ih.1 v39 h35 hv35 (by omega) (by omega) fx35 (by rw [show (v39 : Int32).toInt = (l1.toInt + 1) from e40]; exact k38) (by omega))
      ·
        intro l1 hx hvx l1l l1u fxx kL hm
        rw [f_X1_tieByWay2_] at kL
        replace kL := if_f kL (by decide)
        refine go_iload_n (pc := 70) rfl dX1_tieByWay_70 ?_
        refine go_aload_n (pc := 71) rfl dX1_tieByWay_71 ?_
        refine gi_getC (pc := 72) hvx fL_X1_30 rfl (Nat.le_of_ble_eq_true rfl) rfl (by decide) dX1_tieByWay_72 (fun c42 hc42 fc42 => ?_)
        have k43 := bd_e kL (st_c fc42)
        refine gi_get (pc := 75) (lo := 0) (hi := 5) hvx fL_X1_90 (by rcases hc42 with rfl | rfl <;> rfl) (Nat.le_of_ble_eq_true rfl) rfl (by rcases hc42 with rfl | rfl <;> rfl) dX1_tieByWay_75 (fun v44 v44l v44u v44w => ?_)
        have k45 := bd_e k43 (congrArg Int32.toInt v44w.symm)
        refine gf_icmp_ge (pc := 78) (tgt := 122) (ti_rfl l1) (ti_rfl v44) (by decide) dX1_tieByWay_78 (fun q46 => ?_) (fun q46 => ?_)
        ·
          have k47 := if_t k45 q46
          exact gi_vret (pc := 122) ⟨rfl, hvx, (k47.symm.trans kf), fxx⟩ hvx dX1_tieByWay_122
        ·
          have k48 := if_f k45 (Int.not_le.mpr q46)
          refine go_aload_n (pc := 81) rfl dX1_tieByWay_81 ?_
          refine gi_getF (pc := 82) (q := 61) hvx fL_X1_21 rfl (Nat.le_of_ble_eq_true rfl) rfl (hvx.rf (by decide)) dX1_tieByWay_82 ?_
          refine go_iload_n (pc := 85) rfl dX1_tieByWay_85 ?_
          refine go_aload_n (pc := 86) rfl dX1_tieByWay_86 ?_
          refine gi_getF (pc := 87) (q := 63) hvx fL_X1_27 rfl (Nat.le_of_ble_eq_true rfl) rfl (hvx.rf (by decide)) dX1_tieByWay_87 ?_
          refine go_aload_n (pc := 90) rfl dX1_tieByWay_90 ?_
          refine gi_getC (pc := 91) hvx fL_X1_30 rfl (Nat.le_of_ble_eq_true rfl) rfl (by decide) dX1_tieByWay_91 (fun c49 hc49 fc49 => ?_)
          have k50 := bd_e k48 (st_c fc49)
          refine gi_getF (pc := 94) (q := c49 + 1) hvx fL_X1_93 (by rcases hc49 with rfl | rfl <;> rfl) (Nat.le_of_ble_eq_true rfl) rfl (by rcases hc49 with rfl | rfl <;> exact hvx.rf (by decide)) dX1_tieByWay_94 ?_
          refine go_iload_n (pc := 97) rfl dX1_tieByWay_97 ?_
          refine gi_iald (pc := 98) (lo := 0) (hi := 44) (len := 5) hvx (ti_rfl l1) (by rcases hc49 with rfl | rfl <;> rfl) (by omega) (by omega) (fun _ => by rcases hc49 with rfl | rfl <;> rfl) dX1_tieByWay_98 (fun v51 v51l v51u v51w => ?_)
          have k52 := bd_e k50 (congrArg Int32.toInt v51w.symm)
          refine gi_lald (pc := 99) (len := 45) hvx (ti_rfl v51) rfl (by omega) (by omega) dX1_tieByWay_99 (fun v53 v53w => ?_)
          have k54 := bd_e k52 v53w.symm
          refine gi_last (pc := 100) (len := 5) hvx (ti_rfl l1) rfl (by omega) (by omega) dX1_tieByWay_100 (fun h55 hv55 hv55e => ?_)
          have fx55 : FX KAc h h55 := FX.pL fxx hv55e (by unfold KAc; omega)
          have k56 := bd_e k54 (st_L hv55e)
          refine go_aload_n (pc := 101) rfl dX1_tieByWay_101 ?_
          refine go_aload_n (pc := 102) rfl dX1_tieByWay_102 ?_
          refine gi_getF (pc := 103) (q := 61) hv55 fL_X1_21 rfl (Nat.le_of_ble_eq_true rfl) rfl (hv55.rf (by decide)) dX1_tieByWay_103 ?_
          refine go_iload_n (pc := 106) rfl dX1_tieByWay_106 ?_
          refine gi_lald (pc := 107) (len := 5) hv55 (ti_rfl l1) rfl (by omega) (by omega) dX1_tieByWay_107 (fun v57 v57w => ?_)
          have k58 := bd_e k56 v57w.symm
          refine go_iconst (pc := 108) (v := 0) (by decide) dX1_tieByWay_108 ?_
          refine go_bipush (pc := 109) (v := 40) (by decide) dX1_tieByWay_109 ?_
          refine go_iload_n (pc := 111) rfl dX1_tieByWay_111 ?_
          refine gf_iadd (pc := 112) (ti_c (v := 40) (a := 40) (by decide)) (ti_rfl l1) (by omega) (by omega) dX1_tieByWay_112 (fun v59 e60 => ?_)
          refine go_invV (pc := 113) (sl := 0) (s_X1_tieAll2_f l (d + 1) hv55 v57 0 (by rw [show (0 : Int32).toInt = 0 from (ti_c (v := 0) (a := 0) (by decide))]; omega) (by rw [show (0 : Int32).toInt = 0 from (ti_c (v := 0) (a := 0) (by decide))]; omega) v59) mL_X1_96 iM_X1_tieAll sM_X1_tieAll (hv55.sh rfl) rfl rfl rfl (Nat.le_of_ble_eq_true rfl) (show d + 1 + 2 + 1 ≤ d + 4 by omega) (show 8 + (6 + 11) + 40 * (d + 1 + 2) ≤ 40 * (d + 4) by omega) (g_c0 hv55.ln) (Nat.le_of_ble_eq_true rfl) dX1_tieByWay_113 ?_
          intro r h61 hq _
          obtain ⟨rfl, hv61, f62, f63⟩ := hq
          try rw [show (0 : Int32).toInt = 0 from (ti_c (v := 0) (a := 0) (by decide))] at f62
          try rw [show (v59 : Int32).toInt = (40 + l1.toInt) from e60] at f62
          try rw [show (0 : Int32).toInt = 0 from (ti_c (v := 0) (a := 0) (by decide))] at f63
          try rw [show (v59 : Int32).toInt = (40 + l1.toInt) from e60] at f63
          have fx61 : FX KAc h h61 := FX.tr fx55 f63
          have k64 := bd_e k58 f62.symm
          refine gf_iinc (pc := 116) (Nat.le_of_ble_eq_true rfl) rfl (ti_rfl l1) (ti_c (by decide)) (by omega) (by omega) dX1_tieByWay_116 (fun v65 e66 => ?_)
          refine go_lv (lv2 := [(0, .ref 57), (1, .int v65)]) rfl ?_
          refine go_goto (pc := 119) (tgt := 70) (by decide) dX1_tieByWay_119 ?_
          have z67 : (v65 : Int32).toInt = (l1.toInt + 1) := e66
          exact go_lv rfl (ih.2 v65 h61 hv61 (by omega) (by omega) fx61 (by rw [show (v65 : Int32).toInt = (l1.toInt + 1) from e66]; exact k64) (by omega))
  refine go_aload_n (pc := 0) rfl dX1_tieByWay_0 ?_
  refine go_invV (pc := 1) (sl := 0) (s_X1_findCertain2_f l (d + 0) hv ) mL_X1_83 iM_X1_findCertain sM_X1_findCertain (hv.sh rfl) rfl rfl rfl (Nat.le_of_ble_eq_true rfl) (show d + 0 + 3 + 1 ≤ d + 4 by omega) (show 8 + (6 + 11) + 40 * (d + 0 + 3) ≤ 40 * (d + 4) by omega) (g_c0 hv.ln) (Nat.le_of_ble_eq_true rfl) dX1_tieByWay_1 ?_
  intro r h68 hq _
  obtain ⟨rfl, hv68, f69, f70⟩ := hq
  have fx68 : FX KAc h h68 := FX.tr fx f70
  have k71 := bd_e k0 f69.symm
  refine go_iconst (pc := 4) (v := 0) (by decide) dX1_tieByWay_4 ?_
  refine go_istore_n (pc := 5) (Nat.le_of_ble_eq_true rfl) dX1_tieByWay_5 (go_lv (lv2 := [(0, .ref 57), (1, .int 0)]) rfl ?_)
  have z72 : (0 : Int32).toInt = 0 := (ti_c (v := 0) (a := 0) (by decide))
  exact go_lv rfl ((key 160).1 0 h68 hv68 (by omega) (by omega) fx68 (by rw [show (0 : Int32).toInt = 0 from (ti_c (v := 0) (a := 0) (by decide))]; exact k71) (by omega))
def f_X1_addTellers2 (s : ST) (a2 : Int) (a3 : Int64) : ST × Int :=
  bd (s.2.1 62 (a2).toNat) fun v1 => bd (o_lor v1 a3) fun v3 => bd (sL s 62 (a2).toNat v3) fun s5 => bd (s5.2.1 62 (a2).toNat) fun v7 => bd (o_lcmp v7 v1) fun v9 => if v9 = 0 then ((s5, 0)) else ((s5, 1))
set_option maxHeartbeats 4000000 in
set_option maxRecDepth 100000 in
theorem s_X1_addTellers2_f (l : Launch) (d : Nat) {P : PP} {h : HP} (hv : Iv P h) (a2 : Int32) (a2l : 0 ≤ a2.toInt) (a2u : a2.toInt ≤ 44) (a3 : Int64) : Mt l yX1_addTellers cX1_addTellers 6 (some .boolean) (d + 1) [.ref 57, .int a2, .long a3] h 0 0 (fun r h' => ∃ v : Int32, r = some (.int v) ∧ 0 ≤ v.toInt ∧ v.toInt ≤ 1 ∧ Iv P h' ∧ ((st h', v.toInt) = f_X1_addTellers2 (st h) a2.toInt a3) ∧ (FX KAc h h')) := by
  refine Mt_iv hv (by decide) (Nat.le_of_ble_eq_true rfl) ?_
  show Go l RX1 cX1_addTellers 6 (g_rm (d + 1) 0 0) "addTellers" (some .boolean) 117 0 0 (fun _ _ => True) (fun r h' => ∃ v : Int32, r = some (.int v) ∧ 0 ≤ v.toInt ∧ v.toInt ≤ 1 ∧ Iv P h' ∧ ((st h', v.toInt) = f_X1_addTellers2 (st h) a2.toInt a3) ∧ (FX KAc h h')) 0 0 [(0, .ref 57), (1, .int a2), (2, .long a3)] [] h
  have fx : FX KAc h h := FX.rfl
  obtain ⟨fin, kf⟩ : ∃ z, z = f_X1_addTellers2 (st h) a2.toInt a3 := ⟨_, _root_.rfl⟩
  have k0 := kf
  unfold f_X1_addTellers2 at k0
  refine go_aload_n (pc := 0) rfl dX1_addTellers_0 ?_
  refine gi_getF (pc := 1) (q := 62) hv fL_X1_24 rfl (Nat.le_of_ble_eq_true rfl) rfl (hv.rf (by decide)) dX1_addTellers_1 ?_
  refine go_iload_n (pc := 4) rfl dX1_addTellers_4 ?_
  refine gi_lald (pc := 5) (len := 45) hv (ti_rfl a2) rfl (by omega) (by omega) dX1_addTellers_5 (fun v1 v1w => ?_)
  have k2 := bd_e k0 v1w.symm
  refine go_lstore (pc := 6) (Nat.le_of_ble_eq_true rfl) dX1_addTellers_6 (go_lv (lv2 := [(0, .ref 57), (1, .int a2), (2, .long a3), (4, .long v1)]) rfl ?_)
  refine go_aload_n (pc := 8) rfl dX1_addTellers_8 ?_
  refine gi_getF (pc := 9) (q := 62) hv fL_X1_24 rfl (Nat.le_of_ble_eq_true rfl) rfl (hv.rf (by decide)) dX1_addTellers_9 ?_
  refine go_iload_n (pc := 12) rfl dX1_addTellers_12 ?_
  refine go_lload (pc := 13) rfl dX1_addTellers_13 ?_
  refine go_lload_n (pc := 15) rfl dX1_addTellers_15 ?_
  refine gx_lor (pc := 16) dX1_addTellers_16 (fun v3 v3x => ?_)
  have k4 := bd_e k2 (so_lor v3x)
  refine gi_last (pc := 17) (len := 45) hv (ti_rfl a2) rfl (by omega) (by omega) dX1_addTellers_17 (fun h5 hv5 hv5e => ?_)
  have fx5 : FX KAc h h5 := FX.pL fx hv5e (by unfold KAc; omega)
  have k6 := bd_e k4 (st_L hv5e)
  refine go_aload_n (pc := 18) rfl dX1_addTellers_18 ?_
  refine gi_getF (pc := 19) (q := 62) hv5 fL_X1_24 rfl (Nat.le_of_ble_eq_true rfl) rfl (hv5.rf (by decide)) dX1_addTellers_19 ?_
  refine go_iload_n (pc := 22) rfl dX1_addTellers_22 ?_
  refine gi_lald (pc := 23) (len := 45) hv5 (ti_rfl a2) rfl (by omega) (by omega) dX1_addTellers_23 (fun v7 v7w => ?_)
  have k8 := bd_e k6 v7w.symm
  refine go_lload (pc := 24) rfl dX1_addTellers_24 ?_
  refine gx_lcmp (pc := 26) dX1_addTellers_26 (fun v9 v9x => ?_)
  have k10 := bd_e k8 (so_lcmp v9x)
  refine gf_if_eq (pc := 27) (tgt := 34) (ti_rfl v9) (by decide) dX1_addTellers_27 (fun q11 => ?_) (fun q11 => ?_)
  ·
    have k12 := if_t k10 q11
    refine go_iconst (pc := 34) (v := 0) (by decide) dX1_addTellers_34 ?_
    exact gi_zret (pc := 35) (ti_c (v := 0) (a := 0) (by decide)) (by omega) (by omega) ⟨_, rfl, (by rw [show (0 : Int32).toInt = 0 from (ti_c (v := 0) (a := 0) (by decide))]; omega), (by rw [show (0 : Int32).toInt = 0 from (ti_c (v := 0) (a := 0) (by decide))]; omega), hv5, (by rw [show (0 : Int32).toInt = 0 from (ti_c (v := 0) (a := 0) (by decide))]; exact k12.symm.trans kf), fx5⟩ hv5 dX1_addTellers_35
  ·
    have k13 := if_f k10 q11
    refine go_iconst (pc := 30) (v := 1) (by decide) dX1_addTellers_30 ?_
    refine go_goto (pc := 31) (tgt := 35) (by decide) dX1_addTellers_31 ?_
    exact gi_zret (pc := 35) (ti_c (v := 1) (a := 1) (by decide)) (by omega) (by omega) ⟨_, rfl, (by rw [show (1 : Int32).toInt = 1 from (ti_c (v := 1) (a := 1) (by decide))]; omega), (by rw [show (1 : Int32).toInt = 1 from (ti_c (v := 1) (a := 1) (by decide))]; omega), hv5, (by rw [show (1 : Int32).toInt = 1 from (ti_c (v := 1) (a := 1) (by decide))]; exact k13.symm.trans kf), fx5⟩ hv5 dX1_addTellers_35
def f_X1_passOn2 (s : ST) (a2 : Int) (a3 : Int) : ST × Int :=
  bd (s.2.2 57 6) fun c1 => bd (f_X0_goesStraight s c1 a2) fun v5 => if v5 = 0 then (bd (s.2.2 57 6) fun c9 => bd (f_X0_decides s c9 a2) fun v13 => if v13 = 0 then ((s, 0)) else (bd (s.2.2 57 6) fun c18 => bd (f_X0_tellsAside2 s c18 a2 a3) fun v22 => bd (s.2.2 57 6) fun c24 => bd (s.1 (c24 + 13) (a2).toNat) fun v26 => if v22 = 0 then (bd (s.2.1 62 (a2).toNat) fun v30 => bd2 (f_X1_addTellers2 s v26 v30) fun s32 v35 => bd (o_ior 0 v35) fun v37 => (s32, v37)) else (bd (f_X7_bit s a2) fun v42 => bd2 (f_X1_addTellers2 s v26 v42) fun s44 v47 => bd (o_ior 0 v47) fun v49 => (s44, v49)))) else (bd (s.2.2 57 6) fun c52 => bd (f_X0_tellsStraight2 s c52 a2 a3) fun v56 => bd (s.2.2 57 6) fun c58 => bd (s.1 (c58 + 12) (a2).toNat) fun v60 => if v56 = 0 then (bd (s.2.1 62 (a2).toNat) fun v64 => bd2 (f_X1_addTellers2 s v60 v64) fun s66 v69 => bd (s66.2.2 57 6) fun c71 => bd (f_X0_decides s66 c71 a2) fun v75 => if v75 = 0 then ((s66, v69)) else (bd (s66.2.2 57 6) fun c80 => bd (f_X0_tellsAside2 s66 c80 a2 a3) fun v84 => bd (s66.2.2 57 6) fun c86 => bd (s66.1 (c86 + 13) (a2).toNat) fun v88 => if v84 = 0 then (bd (s66.2.1 62 (a2).toNat) fun v92 => bd2 (f_X1_addTellers2 s66 v88 v92) fun s94 v97 => bd (o_ior v69 v97) fun v99 => (s94, v99)) else (bd (f_X7_bit s66 a2) fun v104 => bd2 (f_X1_addTellers2 s66 v88 v104) fun s106 v109 => bd (o_ior v69 v109) fun v111 => (s106, v111)))) else (bd (f_X7_bit s a2) fun v116 => bd2 (f_X1_addTellers2 s v60 v116) fun s118 v121 => bd (s118.2.2 57 6) fun c123 => bd (f_X0_decides s118 c123 a2) fun v127 => if v127 = 0 then ((s118, v121)) else (bd (s118.2.2 57 6) fun c132 => bd (f_X0_tellsAside2 s118 c132 a2 a3) fun v136 => bd (s118.2.2 57 6) fun c138 => bd (s118.1 (c138 + 13) (a2).toNat) fun v140 => if v136 = 0 then (bd (s118.2.1 62 (a2).toNat) fun v144 => bd2 (f_X1_addTellers2 s118 v140 v144) fun s146 v149 => bd (o_ior v121 v149) fun v151 => (s146, v151)) else (bd (f_X7_bit s118 a2) fun v156 => bd2 (f_X1_addTellers2 s118 v140 v156) fun s158 v161 => bd (o_ior v121 v161) fun v163 => (s158, v163)))))
set_option maxHeartbeats 4000000 in
set_option maxRecDepth 100000 in
theorem s_X1_passOn2_f (l : Launch) (d : Nat) {P : PP} {h : HP} (hv : Iv P h) (a2 : Int32) (a2l : 0 ≤ a2.toInt) (a2u : a2.toInt ≤ 39) (a3 : Int32) : Mt l yX1_passOn cX1_passOn 5 (some .boolean) (d + 3) [.ref 57, .int a2, .int a3] h 0 0 (fun r h' => ∃ v : Int32, r = some (.int v) ∧ 0 ≤ v.toInt ∧ v.toInt ≤ 1 ∧ Iv P h' ∧ ((st h', v.toInt) = f_X1_passOn2 (st h) a2.toInt a3.toInt) ∧ (FX KAc h h')) := by
  refine Mt_iv hv (by decide) (Nat.le_of_ble_eq_true rfl) ?_
  show Go l RX1 cX1_passOn 5 (g_rm (d + 3) 0 0) "passOn" (some .boolean) 117 0 0 (fun _ _ => True) (fun r h' => ∃ v : Int32, r = some (.int v) ∧ 0 ≤ v.toInt ∧ v.toInt ≤ 1 ∧ Iv P h' ∧ ((st h', v.toInt) = f_X1_passOn2 (st h) a2.toInt a3.toInt) ∧ (FX KAc h h')) 0 0 [(0, .ref 57), (1, .int a2), (2, .int a3)] [] h
  have fx : FX KAc h h := FX.rfl
  obtain ⟨fin, kf⟩ : ∃ z, z = f_X1_passOn2 (st h) a2.toInt a3.toInt := ⟨_, _root_.rfl⟩
  have k0 := kf
  unfold f_X1_passOn2 at k0
  refine go_iconst (pc := 0) (v := 0) (by decide) dX1_passOn_0 ?_
  refine go_istore_n (pc := 1) (Nat.le_of_ble_eq_true rfl) dX1_passOn_1 (go_lv (lv2 := [(0, .ref 57), (1, .int a2), (2, .int a3), (3, .int 0)]) rfl ?_)
  refine go_aload_n (pc := 2) rfl dX1_passOn_2 ?_
  refine gi_getC (pc := 3) hv fL_X1_30 rfl (Nat.le_of_ble_eq_true rfl) rfl (by decide) dX1_passOn_3 (fun c1 hc1 fc1 => ?_)
  have k2 := bd_e k0 (st_c fc1)
  refine go_iload_n (pc := 6) rfl dX1_passOn_6 ?_
  refine go_invV (pc := 7) (sl := 0) (s_X0_goesStraight_f l (d + 0) hv c1 hc1 a2 (by rw [show (a2 : Int32).toInt = a2.toInt from (ti_rfl a2)]; omega) (by rw [show (a2 : Int32).toInt = a2.toInt from (ti_rfl a2)]; omega)) mL_X1_114 iM_X0_goesStraight sM_X0_goesStraight (hv.sh (by rcases hc1 with rfl | rfl <;> rfl)) rfl rfl rfl (Nat.le_of_ble_eq_true rfl) (show d + 0 + 2 + 1 ≤ d + 3 by omega) (show 8 + (2 + 11) + 40 * (d + 0 + 2) ≤ 40 * (d + 3) by omega) (g_c0 hv.ln) (Nat.le_of_ble_eq_true rfl) dX1_passOn_7 ?_
  intro r h3 hq _
  obtain ⟨v5, rfl, v5l, v5u, rfl, f4⟩ := hq
  replace f4 : PE _ _ := f4
  have k6 := bd_e k2 f4.symm
  refine gf_if_eq (pc := 10) (tgt := 56) (ti_rfl v5) (by decide) dX1_passOn_10 (fun q7 => ?_) (fun q7 => ?_)
  ·
    have k8 := if_t k6 q7
    refine go_aload_n (pc := 56) rfl dX1_passOn_56 ?_
    refine gi_getC (pc := 57) hv fL_X1_30 rfl (Nat.le_of_ble_eq_true rfl) rfl (by decide) dX1_passOn_57 (fun c9 hc9 fc9 => ?_)
    have k10 := bd_e k8 (st_c fc9)
    refine go_iload_n (pc := 60) rfl dX1_passOn_60 ?_
    refine go_invV (pc := 61) (sl := 0) (s_X0_decides_f l (d + 0) hv c9 hc9 a2 (by rw [show (a2 : Int32).toInt = a2.toInt from (ti_rfl a2)]; omega) (by rw [show (a2 : Int32).toInt = a2.toInt from (ti_rfl a2)]; omega)) mL_X1_72 iM_X0_decides sM_X0_decides (hv.sh (by rcases hc9 with rfl | rfl <;> rfl)) rfl rfl rfl (Nat.le_of_ble_eq_true rfl) (show d + 0 + 2 + 1 ≤ d + 3 by omega) (show 8 + (2 + 11) + 40 * (d + 0 + 2) ≤ 40 * (d + 3) by omega) (g_c0 hv.ln) (Nat.le_of_ble_eq_true rfl) dX1_passOn_61 ?_
    intro r h11 hq _
    obtain ⟨v13, rfl, v13l, v13u, rfl, f12⟩ := hq
    replace f12 : PE _ _ := f12
    have k14 := bd_e k10 f12.symm
    refine gf_if_eq (pc := 64) (tgt := 112) (ti_rfl v13) (by decide) dX1_passOn_64 (fun q15 => ?_) (fun q15 => ?_)
    ·
      have k16 := if_t k14 q15
      refine go_iload_n (pc := 112) rfl dX1_passOn_112 ?_
      exact gi_zret (pc := 113) (ti_c (v := 0) (a := 0) (by decide)) (by omega) (by omega) ⟨_, rfl, (by rw [show (0 : Int32).toInt = 0 from (ti_c (v := 0) (a := 0) (by decide))]; omega), (by rw [show (0 : Int32).toInt = 0 from (ti_c (v := 0) (a := 0) (by decide))]; omega), hv, (by rw [show (0 : Int32).toInt = 0 from (ti_c (v := 0) (a := 0) (by decide))]; exact k16.symm.trans kf), fx⟩ hv dX1_passOn_113
    ·
      have k17 := if_f k14 q15
      refine go_aload_n (pc := 67) rfl dX1_passOn_67 ?_
      refine gi_getC (pc := 68) hv fL_X1_30 rfl (Nat.le_of_ble_eq_true rfl) rfl (by decide) dX1_passOn_68 (fun c18 hc18 fc18 => ?_)
      have k19 := bd_e k17 (st_c fc18)
      refine go_iload_n (pc := 71) rfl dX1_passOn_71 ?_
      refine go_iload_n (pc := 72) rfl dX1_passOn_72 ?_
      refine go_invV (pc := 73) (sl := 0) (s_X0_tellsAside2_f l (d + 0) hv c18 hc18 a2 (by rw [show (a2 : Int32).toInt = a2.toInt from (ti_rfl a2)]; omega) (by rw [show (a2 : Int32).toInt = a2.toInt from (ti_rfl a2)]; omega) a3) mL_X1_124 iM_X0_tellsAside sM_X0_tellsAside (hv.sh (by rcases hc18 with rfl | rfl <;> rfl)) rfl rfl rfl (Nat.le_of_ble_eq_true rfl) (show d + 0 + 2 + 1 ≤ d + 3 by omega) (show 8 + (3 + 11) + 40 * (d + 0 + 2) ≤ 40 * (d + 3) by omega) (g_c0 hv.ln) (Nat.le_of_ble_eq_true rfl) dX1_passOn_73 ?_
      intro r h20 hq _
      obtain ⟨v22, rfl, v22l, v22u, rfl, f21⟩ := hq
      replace f21 : PE _ _ := f21
      have k23 := bd_e k19 f21.symm
      refine go_istore (pc := 76) (Nat.le_of_ble_eq_true rfl) dX1_passOn_76 (go_lv (lv2 := [(0, .ref 57), (1, .int a2), (2, .int a3), (3, .int 0), (4, .int v22)]) rfl ?_)
      refine go_iload_n (pc := 78) rfl dX1_passOn_78 ?_
      refine go_aload_n (pc := 79) rfl dX1_passOn_79 ?_
      refine go_aload_n (pc := 80) rfl dX1_passOn_80 ?_
      refine gi_getC (pc := 81) hv fL_X1_30 rfl (Nat.le_of_ble_eq_true rfl) rfl (by decide) dX1_passOn_81 (fun c24 hc24 fc24 => ?_)
      have k25 := bd_e k23 (st_c fc24)
      refine gi_getF (pc := 84) (q := c24 + 13) hv fL_X1_76 (by rcases hc24 with rfl | rfl <;> rfl) (Nat.le_of_ble_eq_true rfl) rfl (by rcases hc24 with rfl | rfl <;> exact hv.rf (by decide)) dX1_passOn_84 ?_
      refine go_iload_n (pc := 87) rfl dX1_passOn_87 ?_
      refine gi_iald (pc := 88) (lo := 0) (hi := 44) (len := 40) hv (ti_rfl a2) (by rcases hc24 with rfl | rfl <;> rfl) (by omega) (by omega) (fun _ => by rcases hc24 with rfl | rfl <;> rfl) dX1_passOn_88 (fun v26 v26l v26u v26w => ?_)
      have k27 := bd_e k25 (congrArg Int32.toInt v26w.symm)
      refine go_iload (pc := 89) rfl dX1_passOn_89 ?_
      refine gf_if_eq (pc := 91) (tgt := 101) (ti_rfl v22) (by decide) dX1_passOn_91 (fun q28 => ?_) (fun q28 => ?_)
      ·
        have k29 := if_t k27 q28
        refine go_aload_n (pc := 101) rfl dX1_passOn_101 ?_
        refine gi_getF (pc := 102) (q := 62) hv fL_X1_24 rfl (Nat.le_of_ble_eq_true rfl) rfl (hv.rf (by decide)) dX1_passOn_102 ?_
        refine go_iload_n (pc := 105) rfl dX1_passOn_105 ?_
        refine gi_lald (pc := 106) (len := 45) hv (ti_rfl a2) rfl (by omega) (by omega) dX1_passOn_106 (fun v30 v30w => ?_)
        have k31 := bd_e k29 v30w.symm
        refine go_invV (pc := 107) (sl := 0) (s_X1_addTellers2_f l (d + 1) hv v26 (by rw [show (v26 : Int32).toInt = v26.toInt from (ti_rfl v26)]; omega) (by rw [show (v26 : Int32).toInt = v26.toInt from (ti_rfl v26)]; omega) v30) mL_X1_120 iM_X1_addTellers sM_X1_addTellers (hv.sh rfl) rfl rfl rfl (Nat.le_of_ble_eq_true rfl) (show d + 1 + 1 + 1 ≤ d + 3 by omega) (show 8 + (6 + 11) + 40 * (d + 1 + 1) ≤ 40 * (d + 3) by omega) (g_c0 hv.ln) (Nat.le_of_ble_eq_true rfl) dX1_passOn_107 ?_
        intro r h32 hq _
        obtain ⟨v35, rfl, v35l, v35u, hv32, f33, f34⟩ := hq
        have fx32 : FX KAc h h32 := FX.tr fx f34
        have k36 := bd2_e k31 f33
        refine gx_ior (pc := 110) dX1_passOn_110 (fun v37 v37x => ?_)
        have v37l : 0 ≤ v37.toInt := by rw [v37x]; exact (ti_orB (ti_c (v := 0) (a := 0) (by decide)) (ti_rfl v35) (by omega) (by omega) (by omega) (by omega)).1
        have v37u : v37.toInt ≤ 1 := by rw [v37x]; exact (ti_orB (ti_c (v := 0) (a := 0) (by decide)) (ti_rfl v35) (by omega) (by omega) (by omega) (by omega)).2
        have k38 := bd_e k36 (so_ior (ti_c (v := 0) (a := 0) (by decide)) (ti_rfl v35) v37x)
        refine go_istore_n (pc := 111) (Nat.le_of_ble_eq_true rfl) dX1_passOn_111 (go_lv (lv2 := [(0, .ref 57), (1, .int a2), (2, .int a3), (3, .int v37), (4, .int v22)]) rfl ?_)
        refine go_iload_n (pc := 112) rfl dX1_passOn_112 ?_
        exact gi_zret (pc := 113) (ti_rfl v37) (by omega) (by omega) ⟨_, rfl, (by rw [show (v37 : Int32).toInt = v37.toInt from (ti_rfl v37)]; omega), (by rw [show (v37 : Int32).toInt = v37.toInt from (ti_rfl v37)]; omega), hv32, (k38.symm.trans kf), fx32⟩ hv32 dX1_passOn_113
      ·
        have k39 := if_f k27 q28
        refine go_iload_n (pc := 94) rfl dX1_passOn_94 ?_
        refine go_invS (pc := 95) (sl := 0) (s_X7_bit_f l (d + 1) hv a2) mL_X1_79 iM_X7_bit rfl rfl (Nat.le_of_ble_eq_true rfl) (show d + 1 + 1 + 1 ≤ d + 3 by omega) (show 8 + (1 + 11) + 40 * (d + 1 + 1) ≤ 40 * (d + 3) by omega) (g_c0 hv.ln) (Nat.le_of_ble_eq_true rfl) dX1_passOn_95 ?_
        intro r h40 hq _
        obtain ⟨v42, rfl, rfl, f41⟩ := hq
        have k43 := bd_e k39 f41.symm
        refine go_goto (pc := 98) (tgt := 107) (by decide) dX1_passOn_98 ?_
        refine go_invV (pc := 107) (sl := 0) (s_X1_addTellers2_f l (d + 1) hv v26 (by rw [show (v26 : Int32).toInt = v26.toInt from (ti_rfl v26)]; omega) (by rw [show (v26 : Int32).toInt = v26.toInt from (ti_rfl v26)]; omega) v42) mL_X1_120 iM_X1_addTellers sM_X1_addTellers (hv.sh rfl) rfl rfl rfl (Nat.le_of_ble_eq_true rfl) (show d + 1 + 1 + 1 ≤ d + 3 by omega) (show 8 + (6 + 11) + 40 * (d + 1 + 1) ≤ 40 * (d + 3) by omega) (g_c0 hv.ln) (Nat.le_of_ble_eq_true rfl) dX1_passOn_107 ?_
        intro r h44 hq _
        obtain ⟨v47, rfl, v47l, v47u, hv44, f45, f46⟩ := hq
        have fx44 : FX KAc h h44 := FX.tr fx f46
        have k48 := bd2_e k43 f45
        refine gx_ior (pc := 110) dX1_passOn_110 (fun v49 v49x => ?_)
        have v49l : 0 ≤ v49.toInt := by rw [v49x]; exact (ti_orB (ti_c (v := 0) (a := 0) (by decide)) (ti_rfl v47) (by omega) (by omega) (by omega) (by omega)).1
        have v49u : v49.toInt ≤ 1 := by rw [v49x]; exact (ti_orB (ti_c (v := 0) (a := 0) (by decide)) (ti_rfl v47) (by omega) (by omega) (by omega) (by omega)).2
        have k50 := bd_e k48 (so_ior (ti_c (v := 0) (a := 0) (by decide)) (ti_rfl v47) v49x)
        refine go_istore_n (pc := 111) (Nat.le_of_ble_eq_true rfl) dX1_passOn_111 (go_lv (lv2 := [(0, .ref 57), (1, .int a2), (2, .int a3), (3, .int v49), (4, .int v22)]) rfl ?_)
        refine go_iload_n (pc := 112) rfl dX1_passOn_112 ?_
        exact gi_zret (pc := 113) (ti_rfl v49) (by omega) (by omega) ⟨_, rfl, (by rw [show (v49 : Int32).toInt = v49.toInt from (ti_rfl v49)]; omega), (by rw [show (v49 : Int32).toInt = v49.toInt from (ti_rfl v49)]; omega), hv44, (k50.symm.trans kf), fx44⟩ hv44 dX1_passOn_113
  ·
    have k51 := if_f k6 q7
    refine go_aload_n (pc := 13) rfl dX1_passOn_13 ?_
    refine gi_getC (pc := 14) hv fL_X1_30 rfl (Nat.le_of_ble_eq_true rfl) rfl (by decide) dX1_passOn_14 (fun c52 hc52 fc52 => ?_)
    have k53 := bd_e k51 (st_c fc52)
    refine go_iload_n (pc := 17) rfl dX1_passOn_17 ?_
    refine go_iload_n (pc := 18) rfl dX1_passOn_18 ?_
    refine go_invV (pc := 19) (sl := 0) (s_X0_tellsStraight2_f l (d + 0) hv c52 hc52 a2 (by rw [show (a2 : Int32).toInt = a2.toInt from (ti_rfl a2)]; omega) (by rw [show (a2 : Int32).toInt = a2.toInt from (ti_rfl a2)]; omega) a3) mL_X1_117 iM_X0_tellsStraight sM_X0_tellsStraight (hv.sh (by rcases hc52 with rfl | rfl <;> rfl)) rfl rfl rfl (Nat.le_of_ble_eq_true rfl) (show d + 0 + 2 + 1 ≤ d + 3 by omega) (show 8 + (3 + 11) + 40 * (d + 0 + 2) ≤ 40 * (d + 3) by omega) (g_c0 hv.ln) (Nat.le_of_ble_eq_true rfl) dX1_passOn_19 ?_
    intro r h54 hq _
    obtain ⟨v56, rfl, v56l, v56u, rfl, f55⟩ := hq
    replace f55 : PE _ _ := f55
    have k57 := bd_e k53 f55.symm
    refine go_istore (pc := 22) (Nat.le_of_ble_eq_true rfl) dX1_passOn_22 (go_lv (lv2 := [(0, .ref 57), (1, .int a2), (2, .int a3), (3, .int 0), (4, .int v56)]) rfl ?_)
    refine go_aload_n (pc := 24) rfl dX1_passOn_24 ?_
    refine go_aload_n (pc := 25) rfl dX1_passOn_25 ?_
    refine gi_getC (pc := 26) hv fL_X1_30 rfl (Nat.le_of_ble_eq_true rfl) rfl (by decide) dX1_passOn_26 (fun c58 hc58 fc58 => ?_)
    have k59 := bd_e k57 (st_c fc58)
    refine gi_getF (pc := 29) (q := c58 + 12) hv fL_X1_68 (by rcases hc58 with rfl | rfl <;> rfl) (Nat.le_of_ble_eq_true rfl) rfl (by rcases hc58 with rfl | rfl <;> exact hv.rf (by decide)) dX1_passOn_29 ?_
    refine go_iload_n (pc := 32) rfl dX1_passOn_32 ?_
    refine gi_iald (pc := 33) (lo := 0) (hi := 44) (len := 40) hv (ti_rfl a2) (by rcases hc58 with rfl | rfl <;> rfl) (by omega) (by omega) (fun _ => by rcases hc58 with rfl | rfl <;> rfl) dX1_passOn_33 (fun v60 v60l v60u v60w => ?_)
    have k61 := bd_e k59 (congrArg Int32.toInt v60w.symm)
    refine go_iload (pc := 34) rfl dX1_passOn_34 ?_
    refine gf_if_eq (pc := 36) (tgt := 46) (ti_rfl v56) (by decide) dX1_passOn_36 (fun q62 => ?_) (fun q62 => ?_)
    ·
      have k63 := if_t k61 q62
      refine go_aload_n (pc := 46) rfl dX1_passOn_46 ?_
      refine gi_getF (pc := 47) (q := 62) hv fL_X1_24 rfl (Nat.le_of_ble_eq_true rfl) rfl (hv.rf (by decide)) dX1_passOn_47 ?_
      refine go_iload_n (pc := 50) rfl dX1_passOn_50 ?_
      refine gi_lald (pc := 51) (len := 45) hv (ti_rfl a2) rfl (by omega) (by omega) dX1_passOn_51 (fun v64 v64w => ?_)
      have k65 := bd_e k63 v64w.symm
      refine go_invV (pc := 52) (sl := 0) (s_X1_addTellers2_f l (d + 1) hv v60 (by rw [show (v60 : Int32).toInt = v60.toInt from (ti_rfl v60)]; omega) (by rw [show (v60 : Int32).toInt = v60.toInt from (ti_rfl v60)]; omega) v64) mL_X1_120 iM_X1_addTellers sM_X1_addTellers (hv.sh rfl) rfl rfl rfl (Nat.le_of_ble_eq_true rfl) (show d + 1 + 1 + 1 ≤ d + 3 by omega) (show 8 + (6 + 11) + 40 * (d + 1 + 1) ≤ 40 * (d + 3) by omega) (g_c0 hv.ln) (Nat.le_of_ble_eq_true rfl) dX1_passOn_52 ?_
      intro r h66 hq _
      obtain ⟨v69, rfl, v69l, v69u, hv66, f67, f68⟩ := hq
      have fx66 : FX KAc h h66 := FX.tr fx f68
      have k70 := bd2_e k65 f67
      refine go_istore_n (pc := 55) (Nat.le_of_ble_eq_true rfl) dX1_passOn_55 (go_lv (lv2 := [(0, .ref 57), (1, .int a2), (2, .int a3), (3, .int v69), (4, .int v56)]) rfl ?_)
      refine go_aload_n (pc := 56) rfl dX1_passOn_56 ?_
      refine gi_getC (pc := 57) hv66 fL_X1_30 rfl (Nat.le_of_ble_eq_true rfl) rfl (by decide) dX1_passOn_57 (fun c71 hc71 fc71 => ?_)
      have k72 := bd_e k70 (st_c fc71)
      refine go_iload_n (pc := 60) rfl dX1_passOn_60 ?_
      refine go_invV (pc := 61) (sl := 0) (s_X0_decides_f l (d + 0) hv66 c71 hc71 a2 (by rw [show (a2 : Int32).toInt = a2.toInt from (ti_rfl a2)]; omega) (by rw [show (a2 : Int32).toInt = a2.toInt from (ti_rfl a2)]; omega)) mL_X1_72 iM_X0_decides sM_X0_decides (hv66.sh (by rcases hc71 with rfl | rfl <;> rfl)) rfl rfl rfl (Nat.le_of_ble_eq_true rfl) (show d + 0 + 2 + 1 ≤ d + 3 by omega) (show 8 + (2 + 11) + 40 * (d + 0 + 2) ≤ 40 * (d + 3) by omega) (g_c0 hv66.ln) (Nat.le_of_ble_eq_true rfl) dX1_passOn_61 ?_
      intro r h73 hq _
      obtain ⟨v75, rfl, v75l, v75u, rfl, f74⟩ := hq
      replace f74 : PE _ _ := f74
      have k76 := bd_e k72 f74.symm
      refine gf_if_eq (pc := 64) (tgt := 112) (ti_rfl v75) (by decide) dX1_passOn_64 (fun q77 => ?_) (fun q77 => ?_)
      ·
        have k78 := if_t k76 q77
        refine go_iload_n (pc := 112) rfl dX1_passOn_112 ?_
        exact gi_zret (pc := 113) (ti_rfl v69) (by omega) (by omega) ⟨_, rfl, (by rw [show (v69 : Int32).toInt = v69.toInt from (ti_rfl v69)]; omega), (by rw [show (v69 : Int32).toInt = v69.toInt from (ti_rfl v69)]; omega), hv66, (k78.symm.trans kf), fx66⟩ hv66 dX1_passOn_113
      ·
        have k79 := if_f k76 q77
        refine go_aload_n (pc := 67) rfl dX1_passOn_67 ?_
        refine gi_getC (pc := 68) hv66 fL_X1_30 rfl (Nat.le_of_ble_eq_true rfl) rfl (by decide) dX1_passOn_68 (fun c80 hc80 fc80 => ?_)
        have k81 := bd_e k79 (st_c fc80)
        refine go_iload_n (pc := 71) rfl dX1_passOn_71 ?_
        refine go_iload_n (pc := 72) rfl dX1_passOn_72 ?_
        refine go_invV (pc := 73) (sl := 0) (s_X0_tellsAside2_f l (d + 0) hv66 c80 hc80 a2 (by rw [show (a2 : Int32).toInt = a2.toInt from (ti_rfl a2)]; omega) (by rw [show (a2 : Int32).toInt = a2.toInt from (ti_rfl a2)]; omega) a3) mL_X1_124 iM_X0_tellsAside sM_X0_tellsAside (hv66.sh (by rcases hc80 with rfl | rfl <;> rfl)) rfl rfl rfl (Nat.le_of_ble_eq_true rfl) (show d + 0 + 2 + 1 ≤ d + 3 by omega) (show 8 + (3 + 11) + 40 * (d + 0 + 2) ≤ 40 * (d + 3) by omega) (g_c0 hv66.ln) (Nat.le_of_ble_eq_true rfl) dX1_passOn_73 ?_
        intro r h82 hq _
        obtain ⟨v84, rfl, v84l, v84u, rfl, f83⟩ := hq
        replace f83 : PE _ _ := f83
        have k85 := bd_e k81 f83.symm
        refine go_istore (pc := 76) (Nat.le_of_ble_eq_true rfl) dX1_passOn_76 (go_lv (lv2 := [(0, .ref 57), (1, .int a2), (2, .int a3), (3, .int v69), (4, .int v84)]) rfl ?_)
        refine go_iload_n (pc := 78) rfl dX1_passOn_78 ?_
        refine go_aload_n (pc := 79) rfl dX1_passOn_79 ?_
        refine go_aload_n (pc := 80) rfl dX1_passOn_80 ?_
        refine gi_getC (pc := 81) hv66 fL_X1_30 rfl (Nat.le_of_ble_eq_true rfl) rfl (by decide) dX1_passOn_81 (fun c86 hc86 fc86 => ?_)
        have k87 := bd_e k85 (st_c fc86)
        refine gi_getF (pc := 84) (q := c86 + 13) hv66 fL_X1_76 (by rcases hc86 with rfl | rfl <;> rfl) (Nat.le_of_ble_eq_true rfl) rfl (by rcases hc86 with rfl | rfl <;> exact hv66.rf (by decide)) dX1_passOn_84 ?_
        refine go_iload_n (pc := 87) rfl dX1_passOn_87 ?_
        refine gi_iald (pc := 88) (lo := 0) (hi := 44) (len := 40) hv66 (ti_rfl a2) (by rcases hc86 with rfl | rfl <;> rfl) (by omega) (by omega) (fun _ => by rcases hc86 with rfl | rfl <;> rfl) dX1_passOn_88 (fun v88 v88l v88u v88w => ?_)
        have k89 := bd_e k87 (congrArg Int32.toInt v88w.symm)
        refine go_iload (pc := 89) rfl dX1_passOn_89 ?_
        refine gf_if_eq (pc := 91) (tgt := 101) (ti_rfl v84) (by decide) dX1_passOn_91 (fun q90 => ?_) (fun q90 => ?_)
        ·
          have k91 := if_t k89 q90
          refine go_aload_n (pc := 101) rfl dX1_passOn_101 ?_
          refine gi_getF (pc := 102) (q := 62) hv66 fL_X1_24 rfl (Nat.le_of_ble_eq_true rfl) rfl (hv66.rf (by decide)) dX1_passOn_102 ?_
          refine go_iload_n (pc := 105) rfl dX1_passOn_105 ?_
          refine gi_lald (pc := 106) (len := 45) hv66 (ti_rfl a2) rfl (by omega) (by omega) dX1_passOn_106 (fun v92 v92w => ?_)
          have k93 := bd_e k91 v92w.symm
          refine go_invV (pc := 107) (sl := 0) (s_X1_addTellers2_f l (d + 1) hv66 v88 (by rw [show (v88 : Int32).toInt = v88.toInt from (ti_rfl v88)]; omega) (by rw [show (v88 : Int32).toInt = v88.toInt from (ti_rfl v88)]; omega) v92) mL_X1_120 iM_X1_addTellers sM_X1_addTellers (hv66.sh rfl) rfl rfl rfl (Nat.le_of_ble_eq_true rfl) (show d + 1 + 1 + 1 ≤ d + 3 by omega) (show 8 + (6 + 11) + 40 * (d + 1 + 1) ≤ 40 * (d + 3) by omega) (g_c0 hv66.ln) (Nat.le_of_ble_eq_true rfl) dX1_passOn_107 ?_
          intro r h94 hq _
          obtain ⟨v97, rfl, v97l, v97u, hv94, f95, f96⟩ := hq
          have fx94 : FX KAc h h94 := FX.tr fx66 f96
          have k98 := bd2_e k93 f95
          refine gx_ior (pc := 110) dX1_passOn_110 (fun v99 v99x => ?_)
          have v99l : 0 ≤ v99.toInt := by rw [v99x]; exact (ti_orB (ti_rfl v69) (ti_rfl v97) (by omega) (by omega) (by omega) (by omega)).1
          have v99u : v99.toInt ≤ 1 := by rw [v99x]; exact (ti_orB (ti_rfl v69) (ti_rfl v97) (by omega) (by omega) (by omega) (by omega)).2
          have k100 := bd_e k98 (so_ior (ti_rfl v69) (ti_rfl v97) v99x)
          refine go_istore_n (pc := 111) (Nat.le_of_ble_eq_true rfl) dX1_passOn_111 (go_lv (lv2 := [(0, .ref 57), (1, .int a2), (2, .int a3), (3, .int v99), (4, .int v84)]) rfl ?_)
          refine go_iload_n (pc := 112) rfl dX1_passOn_112 ?_
          exact gi_zret (pc := 113) (ti_rfl v99) (by omega) (by omega) ⟨_, rfl, (by rw [show (v99 : Int32).toInt = v99.toInt from (ti_rfl v99)]; omega), (by rw [show (v99 : Int32).toInt = v99.toInt from (ti_rfl v99)]; omega), hv94, (k100.symm.trans kf), fx94⟩ hv94 dX1_passOn_113
        ·
          have k101 := if_f k89 q90
          refine go_iload_n (pc := 94) rfl dX1_passOn_94 ?_
          refine go_invS (pc := 95) (sl := 0) (s_X7_bit_f l (d + 1) hv66 a2) mL_X1_79 iM_X7_bit rfl rfl (Nat.le_of_ble_eq_true rfl) (show d + 1 + 1 + 1 ≤ d + 3 by omega) (show 8 + (1 + 11) + 40 * (d + 1 + 1) ≤ 40 * (d + 3) by omega) (g_c0 hv66.ln) (Nat.le_of_ble_eq_true rfl) dX1_passOn_95 ?_
          intro r h102 hq _
          obtain ⟨v104, rfl, rfl, f103⟩ := hq
          have k105 := bd_e k101 f103.symm
          refine go_goto (pc := 98) (tgt := 107) (by decide) dX1_passOn_98 ?_
          refine go_invV (pc := 107) (sl := 0) (s_X1_addTellers2_f l (d + 1) hv66 v88 (by rw [show (v88 : Int32).toInt = v88.toInt from (ti_rfl v88)]; omega) (by rw [show (v88 : Int32).toInt = v88.toInt from (ti_rfl v88)]; omega) v104) mL_X1_120 iM_X1_addTellers sM_X1_addTellers (hv66.sh rfl) rfl rfl rfl (Nat.le_of_ble_eq_true rfl) (show d + 1 + 1 + 1 ≤ d + 3 by omega) (show 8 + (6 + 11) + 40 * (d + 1 + 1) ≤ 40 * (d + 3) by omega) (g_c0 hv66.ln) (Nat.le_of_ble_eq_true rfl) dX1_passOn_107 ?_
          intro r h106 hq _
          obtain ⟨v109, rfl, v109l, v109u, hv106, f107, f108⟩ := hq
          have fx106 : FX KAc h h106 := FX.tr fx66 f108
          have k110 := bd2_e k105 f107
          refine gx_ior (pc := 110) dX1_passOn_110 (fun v111 v111x => ?_)
          have v111l : 0 ≤ v111.toInt := by rw [v111x]; exact (ti_orB (ti_rfl v69) (ti_rfl v109) (by omega) (by omega) (by omega) (by omega)).1
          have v111u : v111.toInt ≤ 1 := by rw [v111x]; exact (ti_orB (ti_rfl v69) (ti_rfl v109) (by omega) (by omega) (by omega) (by omega)).2
          have k112 := bd_e k110 (so_ior (ti_rfl v69) (ti_rfl v109) v111x)
          refine go_istore_n (pc := 111) (Nat.le_of_ble_eq_true rfl) dX1_passOn_111 (go_lv (lv2 := [(0, .ref 57), (1, .int a2), (2, .int a3), (3, .int v111), (4, .int v84)]) rfl ?_)
          refine go_iload_n (pc := 112) rfl dX1_passOn_112 ?_
          exact gi_zret (pc := 113) (ti_rfl v111) (by omega) (by omega) ⟨_, rfl, (by rw [show (v111 : Int32).toInt = v111.toInt from (ti_rfl v111)]; omega), (by rw [show (v111 : Int32).toInt = v111.toInt from (ti_rfl v111)]; omega), hv106, (k112.symm.trans kf), fx106⟩ hv106 dX1_passOn_113
    ·
      have k113 := if_f k61 q62
      refine go_iload_n (pc := 39) rfl dX1_passOn_39 ?_
      refine go_invS (pc := 40) (sl := 0) (s_X7_bit_f l (d + 1) hv a2) mL_X1_79 iM_X7_bit rfl rfl (Nat.le_of_ble_eq_true rfl) (show d + 1 + 1 + 1 ≤ d + 3 by omega) (show 8 + (1 + 11) + 40 * (d + 1 + 1) ≤ 40 * (d + 3) by omega) (g_c0 hv.ln) (Nat.le_of_ble_eq_true rfl) dX1_passOn_40 ?_
      intro r h114 hq _
      obtain ⟨v116, rfl, rfl, f115⟩ := hq
      have k117 := bd_e k113 f115.symm
      refine go_goto (pc := 43) (tgt := 52) (by decide) dX1_passOn_43 ?_
      refine go_invV (pc := 52) (sl := 0) (s_X1_addTellers2_f l (d + 1) hv v60 (by rw [show (v60 : Int32).toInt = v60.toInt from (ti_rfl v60)]; omega) (by rw [show (v60 : Int32).toInt = v60.toInt from (ti_rfl v60)]; omega) v116) mL_X1_120 iM_X1_addTellers sM_X1_addTellers (hv.sh rfl) rfl rfl rfl (Nat.le_of_ble_eq_true rfl) (show d + 1 + 1 + 1 ≤ d + 3 by omega) (show 8 + (6 + 11) + 40 * (d + 1 + 1) ≤ 40 * (d + 3) by omega) (g_c0 hv.ln) (Nat.le_of_ble_eq_true rfl) dX1_passOn_52 ?_
      intro r h118 hq _
      obtain ⟨v121, rfl, v121l, v121u, hv118, f119, f120⟩ := hq
      have fx118 : FX KAc h h118 := FX.tr fx f120
      have k122 := bd2_e k117 f119
      refine go_istore_n (pc := 55) (Nat.le_of_ble_eq_true rfl) dX1_passOn_55 (go_lv (lv2 := [(0, .ref 57), (1, .int a2), (2, .int a3), (3, .int v121), (4, .int v56)]) rfl ?_)
      refine go_aload_n (pc := 56) rfl dX1_passOn_56 ?_
      refine gi_getC (pc := 57) hv118 fL_X1_30 rfl (Nat.le_of_ble_eq_true rfl) rfl (by decide) dX1_passOn_57 (fun c123 hc123 fc123 => ?_)
      have k124 := bd_e k122 (st_c fc123)
      refine go_iload_n (pc := 60) rfl dX1_passOn_60 ?_
      refine go_invV (pc := 61) (sl := 0) (s_X0_decides_f l (d + 0) hv118 c123 hc123 a2 (by rw [show (a2 : Int32).toInt = a2.toInt from (ti_rfl a2)]; omega) (by rw [show (a2 : Int32).toInt = a2.toInt from (ti_rfl a2)]; omega)) mL_X1_72 iM_X0_decides sM_X0_decides (hv118.sh (by rcases hc123 with rfl | rfl <;> rfl)) rfl rfl rfl (Nat.le_of_ble_eq_true rfl) (show d + 0 + 2 + 1 ≤ d + 3 by omega) (show 8 + (2 + 11) + 40 * (d + 0 + 2) ≤ 40 * (d + 3) by omega) (g_c0 hv118.ln) (Nat.le_of_ble_eq_true rfl) dX1_passOn_61 ?_
      intro r h125 hq _
      obtain ⟨v127, rfl, v127l, v127u, rfl, f126⟩ := hq
      replace f126 : PE _ _ := f126
      have k128 := bd_e k124 f126.symm
      refine gf_if_eq (pc := 64) (tgt := 112) (ti_rfl v127) (by decide) dX1_passOn_64 (fun q129 => ?_) (fun q129 => ?_)
      ·
        have k130 := if_t k128 q129
        refine go_iload_n (pc := 112) rfl dX1_passOn_112 ?_
        exact gi_zret (pc := 113) (ti_rfl v121) (by omega) (by omega) ⟨_, rfl, (by rw [show (v121 : Int32).toInt = v121.toInt from (ti_rfl v121)]; omega), (by rw [show (v121 : Int32).toInt = v121.toInt from (ti_rfl v121)]; omega), hv118, (k130.symm.trans kf), fx118⟩ hv118 dX1_passOn_113
      ·
        have k131 := if_f k128 q129
        refine go_aload_n (pc := 67) rfl dX1_passOn_67 ?_
        refine gi_getC (pc := 68) hv118 fL_X1_30 rfl (Nat.le_of_ble_eq_true rfl) rfl (by decide) dX1_passOn_68 (fun c132 hc132 fc132 => ?_)
        have k133 := bd_e k131 (st_c fc132)
        refine go_iload_n (pc := 71) rfl dX1_passOn_71 ?_
        refine go_iload_n (pc := 72) rfl dX1_passOn_72 ?_
        refine go_invV (pc := 73) (sl := 0) (s_X0_tellsAside2_f l (d + 0) hv118 c132 hc132 a2 (by rw [show (a2 : Int32).toInt = a2.toInt from (ti_rfl a2)]; omega) (by rw [show (a2 : Int32).toInt = a2.toInt from (ti_rfl a2)]; omega) a3) mL_X1_124 iM_X0_tellsAside sM_X0_tellsAside (hv118.sh (by rcases hc132 with rfl | rfl <;> rfl)) rfl rfl rfl (Nat.le_of_ble_eq_true rfl) (show d + 0 + 2 + 1 ≤ d + 3 by omega) (show 8 + (3 + 11) + 40 * (d + 0 + 2) ≤ 40 * (d + 3) by omega) (g_c0 hv118.ln) (Nat.le_of_ble_eq_true rfl) dX1_passOn_73 ?_
        intro r h134 hq _
        obtain ⟨v136, rfl, v136l, v136u, rfl, f135⟩ := hq
        replace f135 : PE _ _ := f135
        have k137 := bd_e k133 f135.symm
        refine go_istore (pc := 76) (Nat.le_of_ble_eq_true rfl) dX1_passOn_76 (go_lv (lv2 := [(0, .ref 57), (1, .int a2), (2, .int a3), (3, .int v121), (4, .int v136)]) rfl ?_)
        refine go_iload_n (pc := 78) rfl dX1_passOn_78 ?_
        refine go_aload_n (pc := 79) rfl dX1_passOn_79 ?_
        refine go_aload_n (pc := 80) rfl dX1_passOn_80 ?_
        refine gi_getC (pc := 81) hv118 fL_X1_30 rfl (Nat.le_of_ble_eq_true rfl) rfl (by decide) dX1_passOn_81 (fun c138 hc138 fc138 => ?_)
        have k139 := bd_e k137 (st_c fc138)
        refine gi_getF (pc := 84) (q := c138 + 13) hv118 fL_X1_76 (by rcases hc138 with rfl | rfl <;> rfl) (Nat.le_of_ble_eq_true rfl) rfl (by rcases hc138 with rfl | rfl <;> exact hv118.rf (by decide)) dX1_passOn_84 ?_
        refine go_iload_n (pc := 87) rfl dX1_passOn_87 ?_
        refine gi_iald (pc := 88) (lo := 0) (hi := 44) (len := 40) hv118 (ti_rfl a2) (by rcases hc138 with rfl | rfl <;> rfl) (by omega) (by omega) (fun _ => by rcases hc138 with rfl | rfl <;> rfl) dX1_passOn_88 (fun v140 v140l v140u v140w => ?_)
        have k141 := bd_e k139 (congrArg Int32.toInt v140w.symm)
        refine go_iload (pc := 89) rfl dX1_passOn_89 ?_
        refine gf_if_eq (pc := 91) (tgt := 101) (ti_rfl v136) (by decide) dX1_passOn_91 (fun q142 => ?_) (fun q142 => ?_)
        ·
          have k143 := if_t k141 q142
          refine go_aload_n (pc := 101) rfl dX1_passOn_101 ?_
          refine gi_getF (pc := 102) (q := 62) hv118 fL_X1_24 rfl (Nat.le_of_ble_eq_true rfl) rfl (hv118.rf (by decide)) dX1_passOn_102 ?_
          refine go_iload_n (pc := 105) rfl dX1_passOn_105 ?_
          refine gi_lald (pc := 106) (len := 45) hv118 (ti_rfl a2) rfl (by omega) (by omega) dX1_passOn_106 (fun v144 v144w => ?_)
          have k145 := bd_e k143 v144w.symm
          refine go_invV (pc := 107) (sl := 0) (s_X1_addTellers2_f l (d + 1) hv118 v140 (by rw [show (v140 : Int32).toInt = v140.toInt from (ti_rfl v140)]; omega) (by rw [show (v140 : Int32).toInt = v140.toInt from (ti_rfl v140)]; omega) v144) mL_X1_120 iM_X1_addTellers sM_X1_addTellers (hv118.sh rfl) rfl rfl rfl (Nat.le_of_ble_eq_true rfl) (show d + 1 + 1 + 1 ≤ d + 3 by omega) (show 8 + (6 + 11) + 40 * (d + 1 + 1) ≤ 40 * (d + 3) by omega) (g_c0 hv118.ln) (Nat.le_of_ble_eq_true rfl) dX1_passOn_107 ?_
          intro r h146 hq _
          obtain ⟨v149, rfl, v149l, v149u, hv146, f147, f148⟩ := hq
          have fx146 : FX KAc h h146 := FX.tr fx118 f148
          have k150 := bd2_e k145 f147
          refine gx_ior (pc := 110) dX1_passOn_110 (fun v151 v151x => ?_)
          have v151l : 0 ≤ v151.toInt := by rw [v151x]; exact (ti_orB (ti_rfl v121) (ti_rfl v149) (by omega) (by omega) (by omega) (by omega)).1
          have v151u : v151.toInt ≤ 1 := by rw [v151x]; exact (ti_orB (ti_rfl v121) (ti_rfl v149) (by omega) (by omega) (by omega) (by omega)).2
          have k152 := bd_e k150 (so_ior (ti_rfl v121) (ti_rfl v149) v151x)
          refine go_istore_n (pc := 111) (Nat.le_of_ble_eq_true rfl) dX1_passOn_111 (go_lv (lv2 := [(0, .ref 57), (1, .int a2), (2, .int a3), (3, .int v151), (4, .int v136)]) rfl ?_)
          refine go_iload_n (pc := 112) rfl dX1_passOn_112 ?_
          exact gi_zret (pc := 113) (ti_rfl v151) (by omega) (by omega) ⟨_, rfl, (by rw [show (v151 : Int32).toInt = v151.toInt from (ti_rfl v151)]; omega), (by rw [show (v151 : Int32).toInt = v151.toInt from (ti_rfl v151)]; omega), hv146, (k152.symm.trans kf), fx146⟩ hv146 dX1_passOn_113
        ·
          have k153 := if_f k141 q142
          refine go_iload_n (pc := 94) rfl dX1_passOn_94 ?_
          refine go_invS (pc := 95) (sl := 0) (s_X7_bit_f l (d + 1) hv118 a2) mL_X1_79 iM_X7_bit rfl rfl (Nat.le_of_ble_eq_true rfl) (show d + 1 + 1 + 1 ≤ d + 3 by omega) (show 8 + (1 + 11) + 40 * (d + 1 + 1) ≤ 40 * (d + 3) by omega) (g_c0 hv118.ln) (Nat.le_of_ble_eq_true rfl) dX1_passOn_95 ?_
          intro r h154 hq _
          obtain ⟨v156, rfl, rfl, f155⟩ := hq
          have k157 := bd_e k153 f155.symm
          refine go_goto (pc := 98) (tgt := 107) (by decide) dX1_passOn_98 ?_
          refine go_invV (pc := 107) (sl := 0) (s_X1_addTellers2_f l (d + 1) hv118 v140 (by rw [show (v140 : Int32).toInt = v140.toInt from (ti_rfl v140)]; omega) (by rw [show (v140 : Int32).toInt = v140.toInt from (ti_rfl v140)]; omega) v156) mL_X1_120 iM_X1_addTellers sM_X1_addTellers (hv118.sh rfl) rfl rfl rfl (Nat.le_of_ble_eq_true rfl) (show d + 1 + 1 + 1 ≤ d + 3 by omega) (show 8 + (6 + 11) + 40 * (d + 1 + 1) ≤ 40 * (d + 3) by omega) (g_c0 hv118.ln) (Nat.le_of_ble_eq_true rfl) dX1_passOn_107 ?_
          intro r h158 hq _
          obtain ⟨v161, rfl, v161l, v161u, hv158, f159, f160⟩ := hq
          have fx158 : FX KAc h h158 := FX.tr fx118 f160
          have k162 := bd2_e k157 f159
          refine gx_ior (pc := 110) dX1_passOn_110 (fun v163 v163x => ?_)
          have v163l : 0 ≤ v163.toInt := by rw [v163x]; exact (ti_orB (ti_rfl v121) (ti_rfl v161) (by omega) (by omega) (by omega) (by omega)).1
          have v163u : v163.toInt ≤ 1 := by rw [v163x]; exact (ti_orB (ti_rfl v121) (ti_rfl v161) (by omega) (by omega) (by omega) (by omega)).2
          have k164 := bd_e k162 (so_ior (ti_rfl v121) (ti_rfl v161) v163x)
          refine go_istore_n (pc := 111) (Nat.le_of_ble_eq_true rfl) dX1_passOn_111 (go_lv (lv2 := [(0, .ref 57), (1, .int a2), (2, .int a3), (3, .int v163), (4, .int v136)]) rfl ?_)
          refine go_iload_n (pc := 112) rfl dX1_passOn_112 ?_
          exact gi_zret (pc := 113) (ti_rfl v163) (by omega) (by omega) ⟨_, rfl, (by rw [show (v163 : Int32).toInt = v163.toInt from (ti_rfl v163)]; omega), (by rw [show (v163 : Int32).toInt = v163.toInt from (ti_rfl v163)]; omega), hv158, (k164.symm.trans kf), fx158⟩ hv158 dX1_passOn_113
noncomputable def f_X1_findTellers2_ : Nat → Nat → Int → Int → Int → Int → ST → ST
  | 0, _, _, _, _, _, sx => sx
  | n + 1, lab, l1, l2, l3, l4, sx => if lab = 22 then (bd (sx.2.2 57 6) fun c1 => bd (sx.1 c1 1) fun v3 => if v3 ≤ l2 then (f_X1_findTellers2_ n 64 l1 1 0 0 sx) else (bd (sx.2.2 57 6) fun c10 => bd (sx.1 (c10 + 1) (l2).toNat) fun v12 => bd (f_X7_bit sx ((40 + l2))) fun v18 => bd (sL sx 62 (v12).toNat v18) fun s20 => f_X1_findTellers2_ n 22 l1 ((l2 + 1)) 0 0 s20)) else if lab = 64 then (if 2025 ≤ l3 then (sx) else (if l2 = 0 then (sx) else (f_X1_findTellers2_ n 80 l1 0 l3 0 sx))) else bd (sx.2.2 57 6) fun c33 => bd (sx.1 c33 0) fun v35 => if v35 ≤ l4 then (f_X1_findTellers2_ n 64 l1 l2 ((l3 + 1)) 0 sx) else (bd2 (f_X1_passOn2 sx l4 l1) fun s43 v46 => bd (o_ior l2 v46) fun v48 => f_X1_findTellers2_ n 80 l1 v48 l3 ((l4 + 1)) s43)
noncomputable def f_X1_findTellers2 (s : ST) (a2 : Int) : ST :=
  bd (f_J7_fill_d0a16_at622 s (0 : Int64)) fun s53 => if a2 < 2 then (f_X1_findTellers2_ (BG 387292) 22 a2 0 0 0 s53) else (bd (f_X7_isField s53 a2) fun v64 => if v64 = 0 then (f_X1_findTellers2_ (BG 387292) 64 a2 1 0 0 s53) else (f_X1_findTellers2_ (BG 387292) 22 a2 0 0 0 s53))
set_option maxHeartbeats 4000000 in
set_option maxRecDepth 100000 in
theorem s_X1_findTellers2_f (l : Launch) (d : Nat) {P : PP} {h : HP} (hv : Iv P h) (a2 : Int32) (a2l : 0 ≤ a2.toInt) (a2u : a2.toInt ≤ 9) : Mt l yX1_findTellers cX1_findTellers 5 none (d + 4) [.ref 57, .int a2] h 0 0 (fun r h' => r = none ∧ Iv P h' ∧ (st h' = f_X1_findTellers2 (st h) a2.toInt) ∧ (FX KAc h h')) := by
  refine Mt_iv hv (by decide) (Nat.le_of_ble_eq_true rfl) ?_
  show Go l RX1 cX1_findTellers 5 (g_rm (d + 4) 0 0) "findTellers" none 117 0 0 (fun _ _ => True) (fun r h' => r = none ∧ Iv P h' ∧ (st h' = f_X1_findTellers2 (st h) a2.toInt) ∧ (FX KAc h h')) 0 0 [(0, .ref 57), (1, .int a2)] [] h
  have fx : FX KAc h h := FX.rfl
  obtain ⟨fin, kf⟩ : ∃ z, z = f_X1_findTellers2 (st h) a2.toInt := ⟨_, _root_.rfl⟩
  have k0 := kf
  unfold f_X1_findTellers2 at k0
  have key : ∀ n : Nat, (∀ (l1 : Int32) (l2 : Int32) (hx : HP), Iv P hx → 0 ≤ l1.toInt → l1.toInt ≤ 9 → 0 ≤ l2.toInt → l2.toInt ≤ 5 → FX KAc h hx → fin = f_X1_findTellers2_ n 22 l1.toInt l2.toInt 0 0 (st hx) → (3 * (5 - l2.toInt) + 387260 : Int) < n → Go l RX1 cX1_findTellers 5 (g_rm (d + 4) 0 0) "findTellers" none 117 0 0 (fun _ _ => True) (fun r h' => r = none ∧ Iv P h' ∧ (st h' = f_X1_findTellers2 (st h) a2.toInt) ∧ (FX KAc h h')) 0 22 [(0, .ref 57), (1, .int l1), (2, .int l2)] [] hx) ∧ (∀ (l1 : Int32) (l2 : Int32) (l3 : Int32) (hx : HP), Iv P hx → 0 ≤ l1.toInt → l1.toInt ≤ 9 → 0 ≤ l2.toInt → l2.toInt ≤ 1 → 0 ≤ l3.toInt → l3.toInt ≤ 3000 → FX KAc h hx → fin = f_X1_findTellers2_ n 64 l1.toInt l2.toInt l3.toInt 0 (st hx) → (129 * (3000 - l3.toInt) + 128 : Int) < n → Go l RX1 cX1_findTellers 5 (g_rm (d + 4) 0 0) "findTellers" none 117 0 0 (fun _ _ => True) (fun r h' => r = none ∧ Iv P h' ∧ (st h' = f_X1_findTellers2 (st h) a2.toInt) ∧ (FX KAc h h')) 0 64 [(0, .ref 57), (1, .int l1), (2, .int l2), (3, .int l3)] [] hx) ∧ (∀ (l1 : Int32) (l2 : Int32) (l3 : Int32) (l4 : Int32) (hx : HP), Iv P hx → 0 ≤ l1.toInt → l1.toInt ≤ 9 → 0 ≤ l2.toInt → l2.toInt ≤ 1 → 0 ≤ l3.toInt → l3.toInt ≤ 2025 → 0 ≤ l4.toInt → l4.toInt ≤ 40 → FX KAc h hx → fin = f_X1_findTellers2_ n 80 l1.toInt l2.toInt l3.toInt l4.toInt (st hx) → (3 * (40 - l4.toInt) + 129 * (3000 - l3.toInt) + 3 : Int) < n → Go l RX1 cX1_findTellers 5 (g_rm (d + 4) 0 0) "findTellers" none 117 0 0 (fun _ _ => True) (fun r h' => r = none ∧ Iv P h' ∧ (st h' = f_X1_findTellers2 (st h) a2.toInt) ∧ (FX KAc h h')) 0 80 [(0, .ref 57), (1, .int l1), (2, .int l2), (3, .int l3), (4, .int l4)] [] hx) := by
    intro n
    induction n with
    | zero => exact ⟨(by intros; omega), (by intros; omega), (by intros; omega)⟩
    | succ n ih =>
      refine ⟨?_, ?_, ?_⟩
      ·
        intro l1 l2 hx hvx l1l l1u l2l l2u fxx kL hm
        rw [f_X1_findTellers2_] at kL
        replace kL := if_t kL _root_.rfl
        refine go_iload_n (pc := 22) rfl dX1_findTellers_22 ?_
        refine go_aload_n (pc := 23) rfl dX1_findTellers_23 ?_
        refine gi_getC (pc := 24) hvx fL_X1_30 rfl (Nat.le_of_ble_eq_true rfl) rfl (by decide) dX1_findTellers_24 (fun c1 hc1 fc1 => ?_)
        have k2 := bd_e kL (st_c fc1)
        refine gi_get (pc := 27) (lo := 0) (hi := 5) hvx fL_X1_90 (by rcases hc1 with rfl | rfl <;> rfl) (Nat.le_of_ble_eq_true rfl) rfl (by rcases hc1 with rfl | rfl <;> rfl) dX1_findTellers_27 (fun v3 v3l v3u v3w => ?_)
        have k4 := bd_e k2 (congrArg Int32.toInt v3w.symm)
        refine gf_icmp_ge (pc := 30) (tgt := 60) (ti_rfl l2) (ti_rfl v3) (by decide) dX1_findTellers_30 (fun q5 => ?_) (fun q5 => ?_)
        ·
          have k6 := if_t k4 q5
          refine go_iconst (pc := 60) (v := 1) (by decide) dX1_findTellers_60 ?_
          refine go_istore_n (pc := 61) (Nat.le_of_ble_eq_true rfl) dX1_findTellers_61 (go_lv (lv2 := [(0, .ref 57), (1, .int l1), (2, .int 1)]) rfl ?_)
          refine go_iconst (pc := 62) (v := 0) (by decide) dX1_findTellers_62 ?_
          refine go_istore_n (pc := 63) (Nat.le_of_ble_eq_true rfl) dX1_findTellers_63 (go_lv (lv2 := [(0, .ref 57), (1, .int l1), (2, .int 1), (3, .int 0)]) rfl ?_)
          have z7 : (1 : Int32).toInt = 1 := (ti_c (v := 1) (a := 1) (by decide))
          have z8 : (0 : Int32).toInt = 0 := (ti_c (v := 0) (a := 0) (by decide))
          exact go_lv rfl (ih.2.1 l1 1 0 hx hvx (by omega) (by omega) (by omega) (by omega) (by omega) (by omega) fxx (by rw [show (1 : Int32).toInt = 1 from (ti_c (v := 1) (a := 1) (by decide)), show (0 : Int32).toInt = 0 from (ti_c (v := 0) (a := 0) (by decide))]; exact k6) (by omega))
        ·
          have k9 := if_f k4 (Int.not_le.mpr q5)
          refine go_aload_n (pc := 33) rfl dX1_findTellers_33 ?_
          refine gi_getF (pc := 34) (q := 62) hvx fL_X1_24 rfl (Nat.le_of_ble_eq_true rfl) rfl (hvx.rf (by decide)) dX1_findTellers_34 ?_
          refine go_aload_n (pc := 37) rfl dX1_findTellers_37 ?_
          refine gi_getC (pc := 38) hvx fL_X1_30 rfl (Nat.le_of_ble_eq_true rfl) rfl (by decide) dX1_findTellers_38 (fun c10 hc10 fc10 => ?_)
          have k11 := bd_e k9 (st_c fc10)
          refine gi_getF (pc := 41) (q := c10 + 1) hvx fL_X1_93 (by rcases hc10 with rfl | rfl <;> rfl) (Nat.le_of_ble_eq_true rfl) rfl (by rcases hc10 with rfl | rfl <;> exact hvx.rf (by decide)) dX1_findTellers_41 ?_
          refine go_iload_n (pc := 44) rfl dX1_findTellers_44 ?_
          refine gi_iald (pc := 45) (lo := 0) (hi := 44) (len := 5) hvx (ti_rfl l2) (by rcases hc10 with rfl | rfl <;> rfl) (by omega) (by omega) (fun _ => by rcases hc10 with rfl | rfl <;> rfl) dX1_findTellers_45 (fun v12 v12l v12u v12w => ?_)
          have k13 := bd_e k11 (congrArg Int32.toInt v12w.symm)
          refine go_bipush (pc := 46) (v := 40) (by decide) dX1_findTellers_46 ?_
          refine go_iload_n (pc := 48) rfl dX1_findTellers_48 ?_
          refine gf_iadd (pc := 49) (ti_c (v := 40) (a := 40) (by decide)) (ti_rfl l2) (by omega) (by omega) dX1_findTellers_49 (fun v14 e15 => ?_)
          refine go_invS (pc := 50) (sl := 0) (s_X7_bit_f l (d + 2) hvx v14) mL_X1_79 iM_X7_bit rfl rfl (Nat.le_of_ble_eq_true rfl) (show d + 2 + 1 + 1 ≤ d + 4 by omega) (show 8 + (1 + 11) + 40 * (d + 2 + 1) ≤ 40 * (d + 4) by omega) (g_c0 hvx.ln) (Nat.le_of_ble_eq_true rfl) dX1_findTellers_50 ?_
          intro r h16 hq _
          obtain ⟨v18, rfl, rfl, f17⟩ := hq
          try rw [show (v14 : Int32).toInt = (40 + l2.toInt) from e15] at f17
          have k19 := bd_e k13 f17.symm
          refine gi_last (pc := 53) (len := 45) hvx (ti_rfl v12) rfl (by omega) (by omega) dX1_findTellers_53 (fun h20 hv20 hv20e => ?_)
          have fx20 : FX KAc h h20 := FX.pL fxx hv20e (by unfold KAc; omega)
          have k21 := bd_e k19 (st_L hv20e)
          refine gf_iinc (pc := 54) (Nat.le_of_ble_eq_true rfl) rfl (ti_rfl l2) (ti_c (by decide)) (by omega) (by omega) dX1_findTellers_54 (fun v22 e23 => ?_)
          refine go_lv (lv2 := [(0, .ref 57), (1, .int l1), (2, .int v22)]) rfl ?_
          refine go_goto (pc := 57) (tgt := 22) (by decide) dX1_findTellers_57 ?_
          have z24 : (v22 : Int32).toInt = (l2.toInt + 1) := e23
          exact go_lv rfl (ih.1 l1 v22 h20 hv20 (by omega) (by omega) (by omega) (by omega) fx20 (by rw [show (v22 : Int32).toInt = (l2.toInt + 1) from e23]; exact k21) (by omega))
      ·
        intro l1 l2 l3 hx hvx l1l l1u l2l l2u l3l l3u fxx kL hm
        rw [f_X1_findTellers2_] at kL
        replace kL := if_f kL (by decide)
        replace kL := if_t kL _root_.rfl
        refine go_iload_n (pc := 64) rfl dX1_findTellers_64 ?_
        refine go_sipush (pc := 65) (v := 2025) (by decide) dX1_findTellers_65 ?_
        refine gf_icmp_ge (pc := 68) (tgt := 114) (ti_rfl l3) (ti_c (v := 2025) (a := 2025) (by decide)) (by decide) dX1_findTellers_68 (fun q25 => ?_) (fun q25 => ?_)
        ·
          have k26 := if_t kL q25
          exact gi_vret (pc := 114) ⟨rfl, hvx, (k26.symm.trans kf), fxx⟩ hvx dX1_findTellers_114
        ·
          have k27 := if_f kL (Int.not_le.mpr q25)
          refine go_iload_n (pc := 71) rfl dX1_findTellers_71 ?_
          refine gf_if_eq (pc := 72) (tgt := 114) (ti_rfl l2) (by decide) dX1_findTellers_72 (fun q28 => ?_) (fun q28 => ?_)
          ·
            have k29 := if_t k27 q28
            exact gi_vret (pc := 114) ⟨rfl, hvx, (k29.symm.trans kf), fxx⟩ hvx dX1_findTellers_114
          ·
            have k30 := if_f k27 q28
            refine go_iconst (pc := 75) (v := 0) (by decide) dX1_findTellers_75 ?_
            refine go_istore_n (pc := 76) (Nat.le_of_ble_eq_true rfl) dX1_findTellers_76 (go_lv (lv2 := [(0, .ref 57), (1, .int l1), (2, .int 0), (3, .int l3)]) rfl ?_)
            refine go_iconst (pc := 77) (v := 0) (by decide) dX1_findTellers_77 ?_
            refine go_istore (pc := 78) (Nat.le_of_ble_eq_true rfl) dX1_findTellers_78 (go_lv (lv2 := [(0, .ref 57), (1, .int l1), (2, .int 0), (3, .int l3), (4, .int 0)]) rfl ?_)
            have z31 : (0 : Int32).toInt = 0 := (ti_c (v := 0) (a := 0) (by decide))
            have z32 : (0 : Int32).toInt = 0 := (ti_c (v := 0) (a := 0) (by decide))
            exact go_lv rfl (ih.2.2 l1 0 l3 0 hx hvx (by omega) (by omega) (by omega) (by omega) (by omega) (by omega) (by omega) (by omega) fxx (by rw [show (0 : Int32).toInt = 0 from (ti_c (v := 0) (a := 0) (by decide))]; exact k30) (by omega))
      ·
        intro l1 l2 l3 l4 hx hvx l1l l1u l2l l2u l3l l3u l4l l4u fxx kL hm
        rw [f_X1_findTellers2_] at kL
        replace kL := if_f kL (by decide)
        replace kL := if_f kL (by decide)
        refine go_iload (pc := 80) rfl dX1_findTellers_80 ?_
        refine go_aload_n (pc := 82) rfl dX1_findTellers_82 ?_
        refine gi_getC (pc := 83) hvx fL_X1_30 rfl (Nat.le_of_ble_eq_true rfl) rfl (by decide) dX1_findTellers_83 (fun c33 hc33 fc33 => ?_)
        have k34 := bd_e kL (st_c fc33)
        refine gi_get (pc := 86) (lo := 0) (hi := 40) hvx fL_X1_62 (by rcases hc33 with rfl | rfl <;> rfl) (Nat.le_of_ble_eq_true rfl) rfl (by rcases hc33 with rfl | rfl <;> rfl) dX1_findTellers_86 (fun v35 v35l v35u v35w => ?_)
        have k36 := bd_e k34 (congrArg Int32.toInt v35w.symm)
        refine gf_icmp_ge (pc := 89) (tgt := 108) (ti_rfl l4) (ti_rfl v35) (by decide) dX1_findTellers_89 (fun q37 => ?_) (fun q37 => ?_)
        ·
          have k38 := if_t k36 q37
          refine gf_iinc (pc := 108) (Nat.le_of_ble_eq_true rfl) rfl (ti_rfl l3) (ti_c (by decide)) (by omega) (by omega) dX1_findTellers_108 (fun v39 e40 => ?_)
          refine go_lv (lv2 := [(0, .ref 57), (1, .int l1), (2, .int l2), (3, .int v39), (4, .int l4)]) rfl ?_
          refine go_goto (pc := 111) (tgt := 64) (by decide) dX1_findTellers_111 ?_
          have z41 : (v39 : Int32).toInt = (l3.toInt + 1) := e40
          exact go_lv rfl (ih.2.1 l1 l2 v39 hx hvx (by omega) (by omega) (by omega) (by omega) (by omega) (by omega) fxx (by rw [show (v39 : Int32).toInt = (l3.toInt + 1) from e40]; exact k38) (by omega))
        ·
          have k42 := if_f k36 (Int.not_le.mpr q37)
          refine go_iload_n (pc := 92) rfl dX1_findTellers_92 ?_
          refine go_aload_n (pc := 93) rfl dX1_findTellers_93 ?_
          refine go_iload (pc := 94) rfl dX1_findTellers_94 ?_
          refine go_iload_n (pc := 96) rfl dX1_findTellers_96 ?_
          refine go_invV (pc := 97) (sl := 0) (s_X1_passOn2_f l (d + 0) hvx l4 (by rw [show (l4 : Int32).toInt = l4.toInt from (ti_rfl l4)]; omega) (by rw [show (l4 : Int32).toInt = l4.toInt from (ti_rfl l4)]; omega) l1) mL_X1_110 iM_X1_passOn sM_X1_passOn (hvx.sh rfl) rfl rfl rfl (Nat.le_of_ble_eq_true rfl) (show d + 0 + 3 + 1 ≤ d + 4 by omega) (show 8 + (5 + 11) + 40 * (d + 0 + 3) ≤ 40 * (d + 4) by omega) (g_c0 hvx.ln) (Nat.le_of_ble_eq_true rfl) dX1_findTellers_97 ?_
          intro r h43 hq _
          obtain ⟨v46, rfl, v46l, v46u, hv43, f44, f45⟩ := hq
          have fx43 : FX KAc h h43 := FX.tr fxx f45
          have k47 := bd2_e k42 f44
          refine gx_ior (pc := 100) dX1_findTellers_100 (fun v48 v48x => ?_)
          have v48l : 0 ≤ v48.toInt := by rw [v48x]; exact (ti_orB (ti_rfl l2) (ti_rfl v46) (by omega) (by omega) (by omega) (by omega)).1
          have v48u : v48.toInt ≤ 1 := by rw [v48x]; exact (ti_orB (ti_rfl l2) (ti_rfl v46) (by omega) (by omega) (by omega) (by omega)).2
          have k49 := bd_e k47 (so_ior (ti_rfl l2) (ti_rfl v46) v48x)
          refine go_istore_n (pc := 101) (Nat.le_of_ble_eq_true rfl) dX1_findTellers_101 (go_lv (lv2 := [(0, .ref 57), (1, .int l1), (2, .int v48), (3, .int l3), (4, .int l4)]) rfl ?_)
          refine gf_iinc (pc := 102) (Nat.le_of_ble_eq_true rfl) rfl (ti_rfl l4) (ti_c (by decide)) (by omega) (by omega) dX1_findTellers_102 (fun v50 e51 => ?_)
          refine go_lv (lv2 := [(0, .ref 57), (1, .int l1), (2, .int v48), (3, .int l3), (4, .int v50)]) rfl ?_
          refine go_goto (pc := 105) (tgt := 80) (by decide) dX1_findTellers_105 ?_
          have z52 : (v50 : Int32).toInt = (l4.toInt + 1) := e51
          exact go_lv rfl (ih.2.2 l1 v48 l3 v50 h43 hv43 (by omega) (by omega) (by omega) (by omega) (by omega) (by omega) (by omega) (by omega) fx43 (by rw [show (v50 : Int32).toInt = (l4.toInt + 1) from e51]; exact k49) (by omega))
  have bgN : 387292 ≤ BG 387292 := BG_le _
  refine go_aload_n (pc := 0) rfl dX1_findTellers_0 ?_
  refine gi_getF (pc := 1) (q := 62) hv fL_X1_24 rfl (Nat.le_of_ble_eq_true rfl) rfl (hv.rf (by decide)) dX1_findTellers_1 ?_
  refine go_lconst (pc := 4) (v := 0) (by decide) dX1_findTellers_4 ?_
  refine go_invS (pc := 5) (sl := 0) (s_J7_fill_d0a16_at622_f l (d + 2) hv (0 : Int64)) mL_X1_34 iM_J7_fill_d0a16 rfl rfl (Nat.le_of_ble_eq_true rfl) (show d + 2 + 1 + 1 ≤ d + 4 by omega) (show 8 + (5 + 11) + 40 * (d + 2 + 1) ≤ 40 * (d + 4) by omega) (g_c0 hv.ln) (Nat.le_of_ble_eq_true rfl) dX1_findTellers_5 ?_
  intro r h53 hq _
  obtain ⟨rfl, hv53, f54, f55⟩ := hq
  have fx53 : FX KAc h h53 := FX.tr fx f55
  have k56 := bd_e k0 f54.symm
  refine go_iload_n (pc := 8) rfl dX1_findTellers_8 ?_
  refine go_iconst (pc := 9) (v := 2) (by decide) dX1_findTellers_9 ?_
  refine gf_icmp_lt (pc := 10) (tgt := 20) (ti_rfl a2) (ti_c (v := 2) (a := 2) (by decide)) (by decide) dX1_findTellers_10 (fun q57 => ?_) (fun q57 => ?_)
  ·
    have k58 := if_t k56 q57
    refine go_iconst (pc := 20) (v := 0) (by decide) dX1_findTellers_20 ?_
    refine go_istore_n (pc := 21) (Nat.le_of_ble_eq_true rfl) dX1_findTellers_21 (go_lv (lv2 := [(0, .ref 57), (1, .int a2), (2, .int 0)]) rfl ?_)
    have z59 : (0 : Int32).toInt = 0 := (ti_c (v := 0) (a := 0) (by decide))
    exact go_lv rfl ((key (BG 387292)).1 a2 0 h53 hv53 (by omega) (by omega) (by omega) (by omega) fx53 (by rw [show (0 : Int32).toInt = 0 from (ti_c (v := 0) (a := 0) (by decide))]; exact k58) (by omega))
  ·
    have k60 := if_f k56 (Int.not_lt.mpr q57)
    refine go_iload_n (pc := 13) rfl dX1_findTellers_13 ?_
    refine go_invS (pc := 14) (sl := 0) (s_X7_isField_f l (d + 2) hv53 a2) mL_X1_107 iM_X7_isField rfl rfl (Nat.le_of_ble_eq_true rfl) (show d + 2 + 1 + 1 ≤ d + 4 by omega) (show 8 + (1 + 11) + 40 * (d + 2 + 1) ≤ 40 * (d + 4) by omega) (g_c0 hv53.ln) (Nat.le_of_ble_eq_true rfl) dX1_findTellers_14 ?_
    intro r h61 hq _
    obtain ⟨v64, rfl, v64l, v64u, rfl, f65, f62, f63⟩ := hq
    replace f63 : PE _ _ := f63
    have k66 := bd_e k60 f63.symm
    refine gf_if_eq (pc := 17) (tgt := 60) (ti_rfl v64) (by decide) dX1_findTellers_17 (fun q67 => ?_) (fun q67 => ?_)
    ·
      have k68 := if_t k66 q67
      refine go_iconst (pc := 60) (v := 1) (by decide) dX1_findTellers_60 ?_
      refine go_istore_n (pc := 61) (Nat.le_of_ble_eq_true rfl) dX1_findTellers_61 (go_lv (lv2 := [(0, .ref 57), (1, .int a2), (2, .int 1)]) rfl ?_)
      refine go_iconst (pc := 62) (v := 0) (by decide) dX1_findTellers_62 ?_
      refine go_istore_n (pc := 63) (Nat.le_of_ble_eq_true rfl) dX1_findTellers_63 (go_lv (lv2 := [(0, .ref 57), (1, .int a2), (2, .int 1), (3, .int 0)]) rfl ?_)
      have z69 : (1 : Int32).toInt = 1 := (ti_c (v := 1) (a := 1) (by decide))
      have z70 : (0 : Int32).toInt = 0 := (ti_c (v := 0) (a := 0) (by decide))
      exact go_lv rfl ((key (BG 387292)).2.1 a2 1 0 h53 hv53 (by omega) (by omega) (by omega) (by omega) (by omega) (by omega) fx53 (by rw [show (1 : Int32).toInt = 1 from (ti_c (v := 1) (a := 1) (by decide)), show (0 : Int32).toInt = 0 from (ti_c (v := 0) (a := 0) (by decide))]; exact k68) (by omega))
    ·
      have k71 := if_f k66 q67
      refine go_iconst (pc := 20) (v := 0) (by decide) dX1_findTellers_20 ?_
      refine go_istore_n (pc := 21) (Nat.le_of_ble_eq_true rfl) dX1_findTellers_21 (go_lv (lv2 := [(0, .ref 57), (1, .int a2), (2, .int 0)]) rfl ?_)
      have z72 : (0 : Int32).toInt = 0 := (ti_c (v := 0) (a := 0) (by decide))
      exact go_lv rfl ((key (BG 387292)).1 a2 0 h53 hv53 (by omega) (by omega) (by omega) (by omega) fx53 (by rw [show (0 : Int32).toInt = 0 from (ti_c (v := 0) (a := 0) (by decide))]; exact k71) (by omega))
def f_X1_tieUse2 (s : ST) (a2 : Int) (a3 : Int) (a4 : Int) : ST :=
  bd (s.2.1 62 (a2).toNat) fun v1 => bd (f_X7_isField s a4) fun v6 => if v6 = 0 then (bd (f_X7_isField s a4) fun v14 => if v14 = 0 then (bd (o_land v1 (1099511627775 : Int64)) fun v19 => bd (s.2.2 57 6) fun c21 => bd (s.2.1 c21 2) fun v23 => bd (o_lxor v23 ((-1) : Int64)) fun v25 => bd (o_land v19 v25) fun v27 => bd (f_X1_tie2 s a2 a3 0 v27) fun s29 => bd (s29.2.2 57 6) fun c35 => bd (s29.2.1 c35 2) fun v37 => bd (o_land v1 v37) fun v39 => bd (f_X1_tie2 s29 a2 a3 ((7 + 0)) v39) fun s41 => bd (o_land v1 ((-1099511627776) : Int64)) fun v47 => bd (f_X1_tie2 s41 a2 a3 ((1 + a4)) v47) fun s49 => if 40 ≤ a2 then (s49) else (bd (s49.2.1 59 (a2).toNat) fun v56 => bd (o_land v1 (1099511627775 : Int64)) fun v58 => bd (o_lor v56 v58) fun v60 => bd (sL s49 59 (a2).toNat v60) fun s62 => s62)) else (bd (f_X7_portOfField2 s a4) fun v67 => bd (o_land v1 (1099511627775 : Int64)) fun v69 => bd (s.2.2 57 6) fun c71 => bd (s.2.1 c71 2) fun v73 => bd (o_lxor v73 ((-1) : Int64)) fun v75 => bd (o_land v69 v75) fun v77 => bd (f_X1_tie2 s a2 a3 0 v77) fun s79 => bd (s79.2.2 57 6) fun c85 => bd (s79.2.1 c85 2) fun v87 => bd (o_land v1 v87) fun v89 => bd (f_X1_tie2 s79 a2 a3 ((7 + 0)) v89) fun s91 => bd (o_land v1 ((-1099511627776) : Int64)) fun v97 => bd (f_X1_tie2 s91 a2 a3 ((1 + v67)) v97) fun s99 => if 40 ≤ a2 then (s99) else (bd (s99.2.1 59 (a2).toNat) fun v106 => bd (o_land v1 (1099511627775 : Int64)) fun v108 => bd (o_lor v106 v108) fun v110 => bd (sL s99 59 (a2).toNat v110) fun s112 => s112))) else (bd (f_X7_portOfField2 s a4) fun v117 => bd (f_X7_isField s a4) fun v122 => if v122 = 0 then (bd (o_land v1 (1099511627775 : Int64)) fun v127 => bd (s.2.2 57 6) fun c129 => bd (s.2.1 c129 2) fun v131 => bd (o_lxor v131 ((-1) : Int64)) fun v133 => bd (o_land v127 v133) fun v135 => bd (f_X1_tie2 s a2 a3 0 v135) fun s137 => bd (s137.2.2 57 6) fun c143 => bd (s137.2.1 c143 2) fun v145 => bd (o_land v1 v145) fun v147 => bd (f_X1_tie2 s137 a2 a3 ((7 + v117)) v147) fun s149 => bd (o_land v1 ((-1099511627776) : Int64)) fun v155 => bd (f_X1_tie2 s149 a2 a3 ((1 + a4)) v155) fun s157 => if 40 ≤ a2 then (s157) else (bd (s157.2.1 59 (a2).toNat) fun v164 => bd (o_land v1 (1099511627775 : Int64)) fun v166 => bd (o_lor v164 v166) fun v168 => bd (sL s157 59 (a2).toNat v168) fun s170 => s170)) else (bd (f_X7_portOfField2 s a4) fun v175 => bd (o_land v1 (1099511627775 : Int64)) fun v177 => bd (s.2.2 57 6) fun c179 => bd (s.2.1 c179 2) fun v181 => bd (o_lxor v181 ((-1) : Int64)) fun v183 => bd (o_land v177 v183) fun v185 => bd (f_X1_tie2 s a2 a3 0 v185) fun s187 => bd (s187.2.2 57 6) fun c193 => bd (s187.2.1 c193 2) fun v195 => bd (o_land v1 v195) fun v197 => bd (f_X1_tie2 s187 a2 a3 ((7 + v117)) v197) fun s199 => bd (o_land v1 ((-1099511627776) : Int64)) fun v205 => bd (f_X1_tie2 s199 a2 a3 ((1 + v175)) v205) fun s207 => if 40 ≤ a2 then (s207) else (bd (s207.2.1 59 (a2).toNat) fun v214 => bd (o_land v1 (1099511627775 : Int64)) fun v216 => bd (o_lor v214 v216) fun v218 => bd (sL s207 59 (a2).toNat v218) fun s220 => s220)))
set_option maxHeartbeats 4000000 in
set_option maxRecDepth 100000 in
theorem s_X1_tieUse2_f (l : Launch) (d : Nat) {P : PP} {h : HP} (hv : Iv P h) (a2 : Int32) (a2l : 0 ≤ a2.toInt) (a2u : a2.toInt ≤ 44) (a3 : Int32) (a3l : 0 ≤ a3.toInt) (a3u : a3.toInt ≤ 12) (a4 : Int32) (a4l : 0 ≤ a4.toInt) (a4u : a4.toInt ≤ 9) : Mt l yX1_tieUse cX1_tieUse 8 none (d + 2) [.ref 57, .int a2, .int a3, .int a4] h 0 0 (fun r h' => r = none ∧ Iv P h' ∧ (st h' = f_X1_tieUse2 (st h) a2.toInt a3.toInt a4.toInt) ∧ (FX KAc h h')) := by
  refine Mt_iv hv (by decide) (Nat.le_of_ble_eq_true rfl) ?_
  show Go l RX1 cX1_tieUse 8 (g_rm (d + 2) 0 0) "tieUse" none 117 0 0 (fun _ _ => True) (fun r h' => r = none ∧ Iv P h' ∧ (st h' = f_X1_tieUse2 (st h) a2.toInt a3.toInt a4.toInt) ∧ (FX KAc h h')) 0 0 [(0, .ref 57), (1, .int a2), (2, .int a3), (3, .int a4)] [] h
  have fx : FX KAc h h := FX.rfl
  obtain ⟨fin, kf⟩ : ∃ z, z = f_X1_tieUse2 (st h) a2.toInt a3.toInt a4.toInt := ⟨_, _root_.rfl⟩
  have k0 := kf
  unfold f_X1_tieUse2 at k0
  refine go_aload_n (pc := 0) rfl dX1_tieUse_0 ?_
  refine gi_getF (pc := 1) (q := 62) hv fL_X1_24 rfl (Nat.le_of_ble_eq_true rfl) rfl (hv.rf (by decide)) dX1_tieUse_1 ?_
  refine go_iload_n (pc := 4) rfl dX1_tieUse_4 ?_
  refine gi_lald (pc := 5) (len := 45) hv (ti_rfl a2) rfl (by omega) (by omega) dX1_tieUse_5 (fun v1 v1w => ?_)
  have k2 := bd_e k0 v1w.symm
  refine go_lstore (pc := 6) (Nat.le_of_ble_eq_true rfl) dX1_tieUse_6 (go_lv (lv2 := [(0, .ref 57), (1, .int a2), (2, .int a3), (3, .int a4), (4, .long v1)]) rfl ?_)
  refine go_iload_n (pc := 8) rfl dX1_tieUse_8 ?_
  refine go_invS (pc := 9) (sl := 0) (s_X7_isField_f l (d + 0) hv a4) mL_X1_107 iM_X7_isField rfl rfl (Nat.le_of_ble_eq_true rfl) (show d + 0 + 1 + 1 ≤ d + 2 by omega) (show 8 + (1 + 11) + 40 * (d + 0 + 1) ≤ 40 * (d + 2) by omega) (g_c0 hv.ln) (Nat.le_of_ble_eq_true rfl) dX1_tieUse_9 ?_
  intro r h3 hq _
  obtain ⟨v6, rfl, v6l, v6u, rfl, f7, f4, f5⟩ := hq
  replace f5 : PE _ _ := f5
  have k8 := bd_e k2 f5.symm
  refine gf_if_eq (pc := 12) (tgt := 22) (ti_rfl v6) (by decide) dX1_tieUse_12 (fun q9 => ?_) (fun q9 => ?_)
  ·
    have k10 := if_t k8 q9
    refine go_iconst (pc := 22) (v := 0) (by decide) dX1_tieUse_22 ?_
    refine go_istore (pc := 23) (Nat.le_of_ble_eq_true rfl) dX1_tieUse_23 (go_lv (lv2 := [(0, .ref 57), (1, .int a2), (2, .int a3), (3, .int a4), (4, .long v1), (6, .int 0)]) rfl ?_)
    refine go_iload_n (pc := 25) rfl dX1_tieUse_25 ?_
    refine go_invS (pc := 26) (sl := 0) (s_X7_isField_f l (d + 0) hv a4) mL_X1_107 iM_X7_isField rfl rfl (Nat.le_of_ble_eq_true rfl) (show d + 0 + 1 + 1 ≤ d + 2 by omega) (show 8 + (1 + 11) + 40 * (d + 0 + 1) ≤ 40 * (d + 2) by omega) (g_c0 hv.ln) (Nat.le_of_ble_eq_true rfl) dX1_tieUse_26 ?_
    intro r h11 hq _
    obtain ⟨v14, rfl, v14l, v14u, rfl, f15, f12, f13⟩ := hq
    replace f13 : PE _ _ := f13
    have k16 := bd_e k10 f13.symm
    refine gf_if_eq (pc := 29) (tgt := 39) (ti_rfl v14) (by decide) dX1_tieUse_29 (fun q17 => ?_) (fun q17 => ?_)
    ·
      have k18 := if_t k16 q17
      refine go_iload_n (pc := 39) rfl dX1_tieUse_39 ?_
      refine go_istore (pc := 40) (Nat.le_of_ble_eq_true rfl) dX1_tieUse_40 (go_lv (lv2 := [(0, .ref 57), (1, .int a2), (2, .int a3), (3, .int a4), (4, .long v1), (6, .int 0), (7, .int a4)]) rfl ?_)
      refine go_aload_n (pc := 42) rfl dX1_tieUse_42 ?_
      refine go_iload_n (pc := 43) rfl dX1_tieUse_43 ?_
      refine go_iload_n (pc := 44) rfl dX1_tieUse_44 ?_
      refine go_iconst (pc := 45) (v := 0) (by decide) dX1_tieUse_45 ?_
      refine go_lload (pc := 46) rfl dX1_tieUse_46 ?_
      refine go_ldc2 (pc := 48) kL_X1_60 dX1_tieUse_48 ?_
      refine gx_land (pc := 51) dX1_tieUse_51 (fun v19 v19x => ?_)
      have k20 := bd_e k18 (so_land v19x)
      refine go_aload_n (pc := 52) rfl dX1_tieUse_52 ?_
      refine gi_getC (pc := 53) hv fL_X1_30 rfl (Nat.le_of_ble_eq_true rfl) rfl (by decide) dX1_tieUse_53 (fun c21 hc21 fc21 => ?_)
      have k22 := bd_e k20 (st_c fc21)
      refine gx_getL (pc := 56) hv fL_X1_141 (by rcases hc21 with rfl | rfl <;> rfl) (Nat.le_of_ble_eq_true rfl) rfl dX1_tieUse_56 (fun v23 v23w => ?_)
      have k24 := bd_e k22 v23w.symm
      refine go_ldc2 (pc := 59) kL_X1_145 dX1_tieUse_59 ?_
      refine gx_lxor (pc := 62) dX1_tieUse_62 (fun v25 v25x => ?_)
      have k26 := bd_e k24 (so_lxor v25x)
      refine gx_land (pc := 63) dX1_tieUse_63 (fun v27 v27x => ?_)
      have k28 := bd_e k26 (so_land v27x)
      refine go_invV (pc := 64) (sl := 0) (s_X1_tie2_f l (d + 0) hv a2 (by rw [show (a2 : Int32).toInt = a2.toInt from (ti_rfl a2)]; omega) (by rw [show (a2 : Int32).toInt = a2.toInt from (ti_rfl a2)]; omega) a3 (by rw [show (a3 : Int32).toInt = a3.toInt from (ti_rfl a3)]; omega) (by rw [show (a3 : Int32).toInt = a3.toInt from (ti_rfl a3)]; omega) 0 (by rw [show (0 : Int32).toInt = 0 from (ti_c (v := 0) (a := 0) (by decide))]; omega) (by rw [show (0 : Int32).toInt = 0 from (ti_c (v := 0) (a := 0) (by decide))]; omega) v27) mL_X1_103 iM_X1_tie sM_X1_tie (hv.sh rfl) rfl rfl rfl (Nat.le_of_ble_eq_true rfl) (show d + 0 + 1 + 1 ≤ d + 2 by omega) (show 8 + (6 + 11) + 40 * (d + 0 + 1) ≤ 40 * (d + 2) by omega) (g_c0 hv.ln) (Nat.le_of_ble_eq_true rfl) dX1_tieUse_64 ?_
      intro r h29 hq _
      obtain ⟨rfl, hv29, f30, f31⟩ := hq
      try rw [show (0 : Int32).toInt = 0 from (ti_c (v := 0) (a := 0) (by decide))] at f30
      try rw [show (0 : Int32).toInt = 0 from (ti_c (v := 0) (a := 0) (by decide))] at f31
      have fx29 : FX KAc h h29 := FX.tr fx f31
      have k32 := bd_e k28 f30.symm
      refine go_aload_n (pc := 67) rfl dX1_tieUse_67 ?_
      refine go_iload_n (pc := 68) rfl dX1_tieUse_68 ?_
      refine go_iload_n (pc := 69) rfl dX1_tieUse_69 ?_
      refine go_bipush (pc := 70) (v := 7) (by decide) dX1_tieUse_70 ?_
      refine go_iload (pc := 72) rfl dX1_tieUse_72 ?_
      refine gf_iadd (pc := 74) (ti_c (v := 7) (a := 7) (by decide)) (ti_c (v := 0) (a := 0) (by decide)) (by omega) (by omega) dX1_tieUse_74 (fun v33 e34 => ?_)
      refine go_lload (pc := 75) rfl dX1_tieUse_75 ?_
      refine go_aload_n (pc := 77) rfl dX1_tieUse_77 ?_
      refine gi_getC (pc := 78) hv29 fL_X1_30 rfl (Nat.le_of_ble_eq_true rfl) rfl (by decide) dX1_tieUse_78 (fun c35 hc35 fc35 => ?_)
      have k36 := bd_e k32 (st_c fc35)
      refine gx_getL (pc := 81) hv29 fL_X1_141 (by rcases hc35 with rfl | rfl <;> rfl) (Nat.le_of_ble_eq_true rfl) rfl dX1_tieUse_81 (fun v37 v37w => ?_)
      have k38 := bd_e k36 v37w.symm
      refine gx_land (pc := 84) dX1_tieUse_84 (fun v39 v39x => ?_)
      have k40 := bd_e k38 (so_land v39x)
      refine go_invV (pc := 85) (sl := 0) (s_X1_tie2_f l (d + 0) hv29 a2 (by rw [show (a2 : Int32).toInt = a2.toInt from (ti_rfl a2)]; omega) (by rw [show (a2 : Int32).toInt = a2.toInt from (ti_rfl a2)]; omega) a3 (by rw [show (a3 : Int32).toInt = a3.toInt from (ti_rfl a3)]; omega) (by rw [show (a3 : Int32).toInt = a3.toInt from (ti_rfl a3)]; omega) v33 (by rw [show (v33 : Int32).toInt = (7 + 0) from e34]; omega) (by rw [show (v33 : Int32).toInt = (7 + 0) from e34]; omega) v39) mL_X1_103 iM_X1_tie sM_X1_tie (hv29.sh rfl) rfl rfl rfl (Nat.le_of_ble_eq_true rfl) (show d + 0 + 1 + 1 ≤ d + 2 by omega) (show 8 + (6 + 11) + 40 * (d + 0 + 1) ≤ 40 * (d + 2) by omega) (g_c0 hv29.ln) (Nat.le_of_ble_eq_true rfl) dX1_tieUse_85 ?_
      intro r h41 hq _
      obtain ⟨rfl, hv41, f42, f43⟩ := hq
      try rw [show (v33 : Int32).toInt = (7 + 0) from e34] at f42
      try rw [show (v33 : Int32).toInt = (7 + 0) from e34] at f43
      have fx41 : FX KAc h h41 := FX.tr fx29 f43
      have k44 := bd_e k40 f42.symm
      refine go_aload_n (pc := 88) rfl dX1_tieUse_88 ?_
      refine go_iload_n (pc := 89) rfl dX1_tieUse_89 ?_
      refine go_iload_n (pc := 90) rfl dX1_tieUse_90 ?_
      refine go_iconst (pc := 91) (v := 1) (by decide) dX1_tieUse_91 ?_
      refine go_iload (pc := 92) rfl dX1_tieUse_92 ?_
      refine gf_iadd (pc := 94) (ti_c (v := 1) (a := 1) (by decide)) (ti_rfl a4) (by omega) (by omega) dX1_tieUse_94 (fun v45 e46 => ?_)
      refine go_lload (pc := 95) rfl dX1_tieUse_95 ?_
      refine go_ldc2 (pc := 97) kL_X1_147 dX1_tieUse_97 ?_
      refine gx_land (pc := 100) dX1_tieUse_100 (fun v47 v47x => ?_)
      have k48 := bd_e k44 (so_land v47x)
      refine go_invV (pc := 101) (sl := 0) (s_X1_tie2_f l (d + 0) hv41 a2 (by rw [show (a2 : Int32).toInt = a2.toInt from (ti_rfl a2)]; omega) (by rw [show (a2 : Int32).toInt = a2.toInt from (ti_rfl a2)]; omega) a3 (by rw [show (a3 : Int32).toInt = a3.toInt from (ti_rfl a3)]; omega) (by rw [show (a3 : Int32).toInt = a3.toInt from (ti_rfl a3)]; omega) v45 (by rw [show (v45 : Int32).toInt = (1 + a4.toInt) from e46]; omega) (by rw [show (v45 : Int32).toInt = (1 + a4.toInt) from e46]; omega) v47) mL_X1_103 iM_X1_tie sM_X1_tie (hv41.sh rfl) rfl rfl rfl (Nat.le_of_ble_eq_true rfl) (show d + 0 + 1 + 1 ≤ d + 2 by omega) (show 8 + (6 + 11) + 40 * (d + 0 + 1) ≤ 40 * (d + 2) by omega) (g_c0 hv41.ln) (Nat.le_of_ble_eq_true rfl) dX1_tieUse_101 ?_
      intro r h49 hq _
      obtain ⟨rfl, hv49, f50, f51⟩ := hq
      try rw [show (v45 : Int32).toInt = (1 + a4.toInt) from e46] at f50
      try rw [show (v45 : Int32).toInt = (1 + a4.toInt) from e46] at f51
      have fx49 : FX KAc h h49 := FX.tr fx41 f51
      have k52 := bd_e k48 f50.symm
      refine go_iload_n (pc := 104) rfl dX1_tieUse_104 ?_
      refine go_bipush (pc := 105) (v := 40) (by decide) dX1_tieUse_105 ?_
      refine gf_icmp_ge (pc := 107) (tgt := 125) (ti_rfl a2) (ti_c (v := 40) (a := 40) (by decide)) (by decide) dX1_tieUse_107 (fun q53 => ?_) (fun q53 => ?_)
      ·
        have k54 := if_t k52 q53
        exact gi_vret (pc := 125) ⟨rfl, hv49, (k54.symm.trans kf), fx49⟩ hv49 dX1_tieUse_125
      ·
        have k55 := if_f k52 (Int.not_le.mpr q53)
        refine go_aload_n (pc := 110) rfl dX1_tieUse_110 ?_
        refine gi_getF (pc := 111) (q := 59) hv49 fL_X1_15 rfl (Nat.le_of_ble_eq_true rfl) rfl (hv49.rf (by decide)) dX1_tieUse_111 ?_
        refine go_iload_n (pc := 114) rfl dX1_tieUse_114 ?_
        refine go_dup2 (pc := 115) rfl rfl dX1_tieUse_115 ?_
        refine gi_lald (pc := 116) (len := 40) hv49 (ti_rfl a2) rfl (by omega) (by omega) dX1_tieUse_116 (fun v56 v56w => ?_)
        have k57 := bd_e k55 v56w.symm
        refine go_lload (pc := 117) rfl dX1_tieUse_117 ?_
        refine go_ldc2 (pc := 119) kL_X1_60 dX1_tieUse_119 ?_
        refine gx_land (pc := 122) dX1_tieUse_122 (fun v58 v58x => ?_)
        have k59 := bd_e k57 (so_land v58x)
        refine gx_lor (pc := 123) dX1_tieUse_123 (fun v60 v60x => ?_)
        have k61 := bd_e k59 (so_lor v60x)
        refine gi_last (pc := 124) (len := 40) hv49 (ti_rfl a2) rfl (by omega) (by omega) dX1_tieUse_124 (fun h62 hv62 hv62e => ?_)
        have fx62 : FX KAc h h62 := FX.pL fx49 hv62e (by unfold KAc; omega)
        have k63 := bd_e k61 (st_L hv62e)
        exact gi_vret (pc := 125) ⟨rfl, hv62, (k63.symm.trans kf), fx62⟩ hv62 dX1_tieUse_125
    ·
      have k64 := if_f k16 q17
      refine go_iload_n (pc := 32) rfl dX1_tieUse_32 ?_
      refine go_invS (pc := 33) (sl := 0) (s_X7_portOfField2_f l (d + 0) hv a4 (by rw [show (a4 : Int32).toInt = a4.toInt from (ti_rfl a4)]; omega) (by rw [show (a4 : Int32).toInt = a4.toInt from (ti_rfl a4)]; omega)) mL_X1_137 iM_X7_portOfField rfl rfl (Nat.le_of_ble_eq_true rfl) (show d + 0 + 1 + 1 ≤ d + 2 by omega) (show 8 + (1 + 11) + 40 * (d + 0 + 1) ≤ 40 * (d + 2) by omega) (g_c0 hv.ln) (Nat.le_of_ble_eq_true rfl) dX1_tieUse_33 ?_
      intro r h65 hq _
      obtain ⟨v67, rfl, v67l, v67u, rfl, f66⟩ := hq
      replace f66 : PE _ _ := f66
      have k68 := bd_e k64 f66.symm
      refine go_goto (pc := 36) (tgt := 40) (by decide) dX1_tieUse_36 ?_
      refine go_istore (pc := 40) (Nat.le_of_ble_eq_true rfl) dX1_tieUse_40 (go_lv (lv2 := [(0, .ref 57), (1, .int a2), (2, .int a3), (3, .int a4), (4, .long v1), (6, .int 0), (7, .int v67)]) rfl ?_)
      refine go_aload_n (pc := 42) rfl dX1_tieUse_42 ?_
      refine go_iload_n (pc := 43) rfl dX1_tieUse_43 ?_
      refine go_iload_n (pc := 44) rfl dX1_tieUse_44 ?_
      refine go_iconst (pc := 45) (v := 0) (by decide) dX1_tieUse_45 ?_
      refine go_lload (pc := 46) rfl dX1_tieUse_46 ?_
      refine go_ldc2 (pc := 48) kL_X1_60 dX1_tieUse_48 ?_
      refine gx_land (pc := 51) dX1_tieUse_51 (fun v69 v69x => ?_)
      have k70 := bd_e k68 (so_land v69x)
      refine go_aload_n (pc := 52) rfl dX1_tieUse_52 ?_
      refine gi_getC (pc := 53) hv fL_X1_30 rfl (Nat.le_of_ble_eq_true rfl) rfl (by decide) dX1_tieUse_53 (fun c71 hc71 fc71 => ?_)
      have k72 := bd_e k70 (st_c fc71)
      refine gx_getL (pc := 56) hv fL_X1_141 (by rcases hc71 with rfl | rfl <;> rfl) (Nat.le_of_ble_eq_true rfl) rfl dX1_tieUse_56 (fun v73 v73w => ?_)
      have k74 := bd_e k72 v73w.symm
      refine go_ldc2 (pc := 59) kL_X1_145 dX1_tieUse_59 ?_
      refine gx_lxor (pc := 62) dX1_tieUse_62 (fun v75 v75x => ?_)
      have k76 := bd_e k74 (so_lxor v75x)
      refine gx_land (pc := 63) dX1_tieUse_63 (fun v77 v77x => ?_)
      have k78 := bd_e k76 (so_land v77x)
      refine go_invV (pc := 64) (sl := 0) (s_X1_tie2_f l (d + 0) hv a2 (by rw [show (a2 : Int32).toInt = a2.toInt from (ti_rfl a2)]; omega) (by rw [show (a2 : Int32).toInt = a2.toInt from (ti_rfl a2)]; omega) a3 (by rw [show (a3 : Int32).toInt = a3.toInt from (ti_rfl a3)]; omega) (by rw [show (a3 : Int32).toInt = a3.toInt from (ti_rfl a3)]; omega) 0 (by rw [show (0 : Int32).toInt = 0 from (ti_c (v := 0) (a := 0) (by decide))]; omega) (by rw [show (0 : Int32).toInt = 0 from (ti_c (v := 0) (a := 0) (by decide))]; omega) v77) mL_X1_103 iM_X1_tie sM_X1_tie (hv.sh rfl) rfl rfl rfl (Nat.le_of_ble_eq_true rfl) (show d + 0 + 1 + 1 ≤ d + 2 by omega) (show 8 + (6 + 11) + 40 * (d + 0 + 1) ≤ 40 * (d + 2) by omega) (g_c0 hv.ln) (Nat.le_of_ble_eq_true rfl) dX1_tieUse_64 ?_
      intro r h79 hq _
      obtain ⟨rfl, hv79, f80, f81⟩ := hq
      try rw [show (0 : Int32).toInt = 0 from (ti_c (v := 0) (a := 0) (by decide))] at f80
      try rw [show (0 : Int32).toInt = 0 from (ti_c (v := 0) (a := 0) (by decide))] at f81
      have fx79 : FX KAc h h79 := FX.tr fx f81
      have k82 := bd_e k78 f80.symm
      refine go_aload_n (pc := 67) rfl dX1_tieUse_67 ?_
      refine go_iload_n (pc := 68) rfl dX1_tieUse_68 ?_
      refine go_iload_n (pc := 69) rfl dX1_tieUse_69 ?_
      refine go_bipush (pc := 70) (v := 7) (by decide) dX1_tieUse_70 ?_
      refine go_iload (pc := 72) rfl dX1_tieUse_72 ?_
      refine gf_iadd (pc := 74) (ti_c (v := 7) (a := 7) (by decide)) (ti_c (v := 0) (a := 0) (by decide)) (by omega) (by omega) dX1_tieUse_74 (fun v83 e84 => ?_)
      refine go_lload (pc := 75) rfl dX1_tieUse_75 ?_
      refine go_aload_n (pc := 77) rfl dX1_tieUse_77 ?_
      refine gi_getC (pc := 78) hv79 fL_X1_30 rfl (Nat.le_of_ble_eq_true rfl) rfl (by decide) dX1_tieUse_78 (fun c85 hc85 fc85 => ?_)
      have k86 := bd_e k82 (st_c fc85)
      refine gx_getL (pc := 81) hv79 fL_X1_141 (by rcases hc85 with rfl | rfl <;> rfl) (Nat.le_of_ble_eq_true rfl) rfl dX1_tieUse_81 (fun v87 v87w => ?_)
      have k88 := bd_e k86 v87w.symm
      refine gx_land (pc := 84) dX1_tieUse_84 (fun v89 v89x => ?_)
      have k90 := bd_e k88 (so_land v89x)
      refine go_invV (pc := 85) (sl := 0) (s_X1_tie2_f l (d + 0) hv79 a2 (by rw [show (a2 : Int32).toInt = a2.toInt from (ti_rfl a2)]; omega) (by rw [show (a2 : Int32).toInt = a2.toInt from (ti_rfl a2)]; omega) a3 (by rw [show (a3 : Int32).toInt = a3.toInt from (ti_rfl a3)]; omega) (by rw [show (a3 : Int32).toInt = a3.toInt from (ti_rfl a3)]; omega) v83 (by rw [show (v83 : Int32).toInt = (7 + 0) from e84]; omega) (by rw [show (v83 : Int32).toInt = (7 + 0) from e84]; omega) v89) mL_X1_103 iM_X1_tie sM_X1_tie (hv79.sh rfl) rfl rfl rfl (Nat.le_of_ble_eq_true rfl) (show d + 0 + 1 + 1 ≤ d + 2 by omega) (show 8 + (6 + 11) + 40 * (d + 0 + 1) ≤ 40 * (d + 2) by omega) (g_c0 hv79.ln) (Nat.le_of_ble_eq_true rfl) dX1_tieUse_85 ?_
      intro r h91 hq _
      obtain ⟨rfl, hv91, f92, f93⟩ := hq
      try rw [show (v83 : Int32).toInt = (7 + 0) from e84] at f92
      try rw [show (v83 : Int32).toInt = (7 + 0) from e84] at f93
      have fx91 : FX KAc h h91 := FX.tr fx79 f93
      have k94 := bd_e k90 f92.symm
      refine go_aload_n (pc := 88) rfl dX1_tieUse_88 ?_
      refine go_iload_n (pc := 89) rfl dX1_tieUse_89 ?_
      refine go_iload_n (pc := 90) rfl dX1_tieUse_90 ?_
      refine go_iconst (pc := 91) (v := 1) (by decide) dX1_tieUse_91 ?_
      refine go_iload (pc := 92) rfl dX1_tieUse_92 ?_
      refine gf_iadd (pc := 94) (ti_c (v := 1) (a := 1) (by decide)) (ti_rfl v67) (by omega) (by omega) dX1_tieUse_94 (fun v95 e96 => ?_)
      refine go_lload (pc := 95) rfl dX1_tieUse_95 ?_
      refine go_ldc2 (pc := 97) kL_X1_147 dX1_tieUse_97 ?_
      refine gx_land (pc := 100) dX1_tieUse_100 (fun v97 v97x => ?_)
      have k98 := bd_e k94 (so_land v97x)
      refine go_invV (pc := 101) (sl := 0) (s_X1_tie2_f l (d + 0) hv91 a2 (by rw [show (a2 : Int32).toInt = a2.toInt from (ti_rfl a2)]; omega) (by rw [show (a2 : Int32).toInt = a2.toInt from (ti_rfl a2)]; omega) a3 (by rw [show (a3 : Int32).toInt = a3.toInt from (ti_rfl a3)]; omega) (by rw [show (a3 : Int32).toInt = a3.toInt from (ti_rfl a3)]; omega) v95 (by rw [show (v95 : Int32).toInt = (1 + v67.toInt) from e96]; omega) (by rw [show (v95 : Int32).toInt = (1 + v67.toInt) from e96]; omega) v97) mL_X1_103 iM_X1_tie sM_X1_tie (hv91.sh rfl) rfl rfl rfl (Nat.le_of_ble_eq_true rfl) (show d + 0 + 1 + 1 ≤ d + 2 by omega) (show 8 + (6 + 11) + 40 * (d + 0 + 1) ≤ 40 * (d + 2) by omega) (g_c0 hv91.ln) (Nat.le_of_ble_eq_true rfl) dX1_tieUse_101 ?_
      intro r h99 hq _
      obtain ⟨rfl, hv99, f100, f101⟩ := hq
      try rw [show (v95 : Int32).toInt = (1 + v67.toInt) from e96] at f100
      try rw [show (v95 : Int32).toInt = (1 + v67.toInt) from e96] at f101
      have fx99 : FX KAc h h99 := FX.tr fx91 f101
      have k102 := bd_e k98 f100.symm
      refine go_iload_n (pc := 104) rfl dX1_tieUse_104 ?_
      refine go_bipush (pc := 105) (v := 40) (by decide) dX1_tieUse_105 ?_
      refine gf_icmp_ge (pc := 107) (tgt := 125) (ti_rfl a2) (ti_c (v := 40) (a := 40) (by decide)) (by decide) dX1_tieUse_107 (fun q103 => ?_) (fun q103 => ?_)
      ·
        have k104 := if_t k102 q103
        exact gi_vret (pc := 125) ⟨rfl, hv99, (k104.symm.trans kf), fx99⟩ hv99 dX1_tieUse_125
      ·
        have k105 := if_f k102 (Int.not_le.mpr q103)
        refine go_aload_n (pc := 110) rfl dX1_tieUse_110 ?_
        refine gi_getF (pc := 111) (q := 59) hv99 fL_X1_15 rfl (Nat.le_of_ble_eq_true rfl) rfl (hv99.rf (by decide)) dX1_tieUse_111 ?_
        refine go_iload_n (pc := 114) rfl dX1_tieUse_114 ?_
        refine go_dup2 (pc := 115) rfl rfl dX1_tieUse_115 ?_
        refine gi_lald (pc := 116) (len := 40) hv99 (ti_rfl a2) rfl (by omega) (by omega) dX1_tieUse_116 (fun v106 v106w => ?_)
        have k107 := bd_e k105 v106w.symm
        refine go_lload (pc := 117) rfl dX1_tieUse_117 ?_
        refine go_ldc2 (pc := 119) kL_X1_60 dX1_tieUse_119 ?_
        refine gx_land (pc := 122) dX1_tieUse_122 (fun v108 v108x => ?_)
        have k109 := bd_e k107 (so_land v108x)
        refine gx_lor (pc := 123) dX1_tieUse_123 (fun v110 v110x => ?_)
        have k111 := bd_e k109 (so_lor v110x)
        refine gi_last (pc := 124) (len := 40) hv99 (ti_rfl a2) rfl (by omega) (by omega) dX1_tieUse_124 (fun h112 hv112 hv112e => ?_)
        have fx112 : FX KAc h h112 := FX.pL fx99 hv112e (by unfold KAc; omega)
        have k113 := bd_e k111 (st_L hv112e)
        exact gi_vret (pc := 125) ⟨rfl, hv112, (k113.symm.trans kf), fx112⟩ hv112 dX1_tieUse_125
  ·
    have k114 := if_f k8 q9
    refine go_iload_n (pc := 15) rfl dX1_tieUse_15 ?_
    refine go_invS (pc := 16) (sl := 0) (s_X7_portOfField2_f l (d + 0) hv a4 (by rw [show (a4 : Int32).toInt = a4.toInt from (ti_rfl a4)]; omega) (by rw [show (a4 : Int32).toInt = a4.toInt from (ti_rfl a4)]; omega)) mL_X1_137 iM_X7_portOfField rfl rfl (Nat.le_of_ble_eq_true rfl) (show d + 0 + 1 + 1 ≤ d + 2 by omega) (show 8 + (1 + 11) + 40 * (d + 0 + 1) ≤ 40 * (d + 2) by omega) (g_c0 hv.ln) (Nat.le_of_ble_eq_true rfl) dX1_tieUse_16 ?_
    intro r h115 hq _
    obtain ⟨v117, rfl, v117l, v117u, rfl, f116⟩ := hq
    replace f116 : PE _ _ := f116
    have k118 := bd_e k114 f116.symm
    refine go_goto (pc := 19) (tgt := 23) (by decide) dX1_tieUse_19 ?_
    refine go_istore (pc := 23) (Nat.le_of_ble_eq_true rfl) dX1_tieUse_23 (go_lv (lv2 := [(0, .ref 57), (1, .int a2), (2, .int a3), (3, .int a4), (4, .long v1), (6, .int v117)]) rfl ?_)
    refine go_iload_n (pc := 25) rfl dX1_tieUse_25 ?_
    refine go_invS (pc := 26) (sl := 0) (s_X7_isField_f l (d + 0) hv a4) mL_X1_107 iM_X7_isField rfl rfl (Nat.le_of_ble_eq_true rfl) (show d + 0 + 1 + 1 ≤ d + 2 by omega) (show 8 + (1 + 11) + 40 * (d + 0 + 1) ≤ 40 * (d + 2) by omega) (g_c0 hv.ln) (Nat.le_of_ble_eq_true rfl) dX1_tieUse_26 ?_
    intro r h119 hq _
    obtain ⟨v122, rfl, v122l, v122u, rfl, f123, f120, f121⟩ := hq
    replace f121 : PE _ _ := f121
    have k124 := bd_e k118 f121.symm
    refine gf_if_eq (pc := 29) (tgt := 39) (ti_rfl v122) (by decide) dX1_tieUse_29 (fun q125 => ?_) (fun q125 => ?_)
    ·
      have k126 := if_t k124 q125
      refine go_iload_n (pc := 39) rfl dX1_tieUse_39 ?_
      refine go_istore (pc := 40) (Nat.le_of_ble_eq_true rfl) dX1_tieUse_40 (go_lv (lv2 := [(0, .ref 57), (1, .int a2), (2, .int a3), (3, .int a4), (4, .long v1), (6, .int v117), (7, .int a4)]) rfl ?_)
      refine go_aload_n (pc := 42) rfl dX1_tieUse_42 ?_
      refine go_iload_n (pc := 43) rfl dX1_tieUse_43 ?_
      refine go_iload_n (pc := 44) rfl dX1_tieUse_44 ?_
      refine go_iconst (pc := 45) (v := 0) (by decide) dX1_tieUse_45 ?_
      refine go_lload (pc := 46) rfl dX1_tieUse_46 ?_
      refine go_ldc2 (pc := 48) kL_X1_60 dX1_tieUse_48 ?_
      refine gx_land (pc := 51) dX1_tieUse_51 (fun v127 v127x => ?_)
      have k128 := bd_e k126 (so_land v127x)
      refine go_aload_n (pc := 52) rfl dX1_tieUse_52 ?_
      refine gi_getC (pc := 53) hv fL_X1_30 rfl (Nat.le_of_ble_eq_true rfl) rfl (by decide) dX1_tieUse_53 (fun c129 hc129 fc129 => ?_)
      have k130 := bd_e k128 (st_c fc129)
      refine gx_getL (pc := 56) hv fL_X1_141 (by rcases hc129 with rfl | rfl <;> rfl) (Nat.le_of_ble_eq_true rfl) rfl dX1_tieUse_56 (fun v131 v131w => ?_)
      have k132 := bd_e k130 v131w.symm
      refine go_ldc2 (pc := 59) kL_X1_145 dX1_tieUse_59 ?_
      refine gx_lxor (pc := 62) dX1_tieUse_62 (fun v133 v133x => ?_)
      have k134 := bd_e k132 (so_lxor v133x)
      refine gx_land (pc := 63) dX1_tieUse_63 (fun v135 v135x => ?_)
      have k136 := bd_e k134 (so_land v135x)
      refine go_invV (pc := 64) (sl := 0) (s_X1_tie2_f l (d + 0) hv a2 (by rw [show (a2 : Int32).toInt = a2.toInt from (ti_rfl a2)]; omega) (by rw [show (a2 : Int32).toInt = a2.toInt from (ti_rfl a2)]; omega) a3 (by rw [show (a3 : Int32).toInt = a3.toInt from (ti_rfl a3)]; omega) (by rw [show (a3 : Int32).toInt = a3.toInt from (ti_rfl a3)]; omega) 0 (by rw [show (0 : Int32).toInt = 0 from (ti_c (v := 0) (a := 0) (by decide))]; omega) (by rw [show (0 : Int32).toInt = 0 from (ti_c (v := 0) (a := 0) (by decide))]; omega) v135) mL_X1_103 iM_X1_tie sM_X1_tie (hv.sh rfl) rfl rfl rfl (Nat.le_of_ble_eq_true rfl) (show d + 0 + 1 + 1 ≤ d + 2 by omega) (show 8 + (6 + 11) + 40 * (d + 0 + 1) ≤ 40 * (d + 2) by omega) (g_c0 hv.ln) (Nat.le_of_ble_eq_true rfl) dX1_tieUse_64 ?_
      intro r h137 hq _
      obtain ⟨rfl, hv137, f138, f139⟩ := hq
      try rw [show (0 : Int32).toInt = 0 from (ti_c (v := 0) (a := 0) (by decide))] at f138
      try rw [show (0 : Int32).toInt = 0 from (ti_c (v := 0) (a := 0) (by decide))] at f139
      have fx137 : FX KAc h h137 := FX.tr fx f139
      have k140 := bd_e k136 f138.symm
      refine go_aload_n (pc := 67) rfl dX1_tieUse_67 ?_
      refine go_iload_n (pc := 68) rfl dX1_tieUse_68 ?_
      refine go_iload_n (pc := 69) rfl dX1_tieUse_69 ?_
      refine go_bipush (pc := 70) (v := 7) (by decide) dX1_tieUse_70 ?_
      refine go_iload (pc := 72) rfl dX1_tieUse_72 ?_
      refine gf_iadd (pc := 74) (ti_c (v := 7) (a := 7) (by decide)) (ti_rfl v117) (by omega) (by omega) dX1_tieUse_74 (fun v141 e142 => ?_)
      refine go_lload (pc := 75) rfl dX1_tieUse_75 ?_
      refine go_aload_n (pc := 77) rfl dX1_tieUse_77 ?_
      refine gi_getC (pc := 78) hv137 fL_X1_30 rfl (Nat.le_of_ble_eq_true rfl) rfl (by decide) dX1_tieUse_78 (fun c143 hc143 fc143 => ?_)
      have k144 := bd_e k140 (st_c fc143)
      refine gx_getL (pc := 81) hv137 fL_X1_141 (by rcases hc143 with rfl | rfl <;> rfl) (Nat.le_of_ble_eq_true rfl) rfl dX1_tieUse_81 (fun v145 v145w => ?_)
      have k146 := bd_e k144 v145w.symm
      refine gx_land (pc := 84) dX1_tieUse_84 (fun v147 v147x => ?_)
      have k148 := bd_e k146 (so_land v147x)
      refine go_invV (pc := 85) (sl := 0) (s_X1_tie2_f l (d + 0) hv137 a2 (by rw [show (a2 : Int32).toInt = a2.toInt from (ti_rfl a2)]; omega) (by rw [show (a2 : Int32).toInt = a2.toInt from (ti_rfl a2)]; omega) a3 (by rw [show (a3 : Int32).toInt = a3.toInt from (ti_rfl a3)]; omega) (by rw [show (a3 : Int32).toInt = a3.toInt from (ti_rfl a3)]; omega) v141 (by rw [show (v141 : Int32).toInt = (7 + v117.toInt) from e142]; omega) (by rw [show (v141 : Int32).toInt = (7 + v117.toInt) from e142]; omega) v147) mL_X1_103 iM_X1_tie sM_X1_tie (hv137.sh rfl) rfl rfl rfl (Nat.le_of_ble_eq_true rfl) (show d + 0 + 1 + 1 ≤ d + 2 by omega) (show 8 + (6 + 11) + 40 * (d + 0 + 1) ≤ 40 * (d + 2) by omega) (g_c0 hv137.ln) (Nat.le_of_ble_eq_true rfl) dX1_tieUse_85 ?_
      intro r h149 hq _
      obtain ⟨rfl, hv149, f150, f151⟩ := hq
      try rw [show (v141 : Int32).toInt = (7 + v117.toInt) from e142] at f150
      try rw [show (v141 : Int32).toInt = (7 + v117.toInt) from e142] at f151
      have fx149 : FX KAc h h149 := FX.tr fx137 f151
      have k152 := bd_e k148 f150.symm
      refine go_aload_n (pc := 88) rfl dX1_tieUse_88 ?_
      refine go_iload_n (pc := 89) rfl dX1_tieUse_89 ?_
      refine go_iload_n (pc := 90) rfl dX1_tieUse_90 ?_
      refine go_iconst (pc := 91) (v := 1) (by decide) dX1_tieUse_91 ?_
      refine go_iload (pc := 92) rfl dX1_tieUse_92 ?_
      refine gf_iadd (pc := 94) (ti_c (v := 1) (a := 1) (by decide)) (ti_rfl a4) (by omega) (by omega) dX1_tieUse_94 (fun v153 e154 => ?_)
      refine go_lload (pc := 95) rfl dX1_tieUse_95 ?_
      refine go_ldc2 (pc := 97) kL_X1_147 dX1_tieUse_97 ?_
      refine gx_land (pc := 100) dX1_tieUse_100 (fun v155 v155x => ?_)
      have k156 := bd_e k152 (so_land v155x)
      refine go_invV (pc := 101) (sl := 0) (s_X1_tie2_f l (d + 0) hv149 a2 (by rw [show (a2 : Int32).toInt = a2.toInt from (ti_rfl a2)]; omega) (by rw [show (a2 : Int32).toInt = a2.toInt from (ti_rfl a2)]; omega) a3 (by rw [show (a3 : Int32).toInt = a3.toInt from (ti_rfl a3)]; omega) (by rw [show (a3 : Int32).toInt = a3.toInt from (ti_rfl a3)]; omega) v153 (by rw [show (v153 : Int32).toInt = (1 + a4.toInt) from e154]; omega) (by rw [show (v153 : Int32).toInt = (1 + a4.toInt) from e154]; omega) v155) mL_X1_103 iM_X1_tie sM_X1_tie (hv149.sh rfl) rfl rfl rfl (Nat.le_of_ble_eq_true rfl) (show d + 0 + 1 + 1 ≤ d + 2 by omega) (show 8 + (6 + 11) + 40 * (d + 0 + 1) ≤ 40 * (d + 2) by omega) (g_c0 hv149.ln) (Nat.le_of_ble_eq_true rfl) dX1_tieUse_101 ?_
      intro r h157 hq _
      obtain ⟨rfl, hv157, f158, f159⟩ := hq
      try rw [show (v153 : Int32).toInt = (1 + a4.toInt) from e154] at f158
      try rw [show (v153 : Int32).toInt = (1 + a4.toInt) from e154] at f159
      have fx157 : FX KAc h h157 := FX.tr fx149 f159
      have k160 := bd_e k156 f158.symm
      refine go_iload_n (pc := 104) rfl dX1_tieUse_104 ?_
      refine go_bipush (pc := 105) (v := 40) (by decide) dX1_tieUse_105 ?_
      refine gf_icmp_ge (pc := 107) (tgt := 125) (ti_rfl a2) (ti_c (v := 40) (a := 40) (by decide)) (by decide) dX1_tieUse_107 (fun q161 => ?_) (fun q161 => ?_)
      ·
        have k162 := if_t k160 q161
        exact gi_vret (pc := 125) ⟨rfl, hv157, (k162.symm.trans kf), fx157⟩ hv157 dX1_tieUse_125
      ·
        have k163 := if_f k160 (Int.not_le.mpr q161)
        refine go_aload_n (pc := 110) rfl dX1_tieUse_110 ?_
        refine gi_getF (pc := 111) (q := 59) hv157 fL_X1_15 rfl (Nat.le_of_ble_eq_true rfl) rfl (hv157.rf (by decide)) dX1_tieUse_111 ?_
        refine go_iload_n (pc := 114) rfl dX1_tieUse_114 ?_
        refine go_dup2 (pc := 115) rfl rfl dX1_tieUse_115 ?_
        refine gi_lald (pc := 116) (len := 40) hv157 (ti_rfl a2) rfl (by omega) (by omega) dX1_tieUse_116 (fun v164 v164w => ?_)
        have k165 := bd_e k163 v164w.symm
        refine go_lload (pc := 117) rfl dX1_tieUse_117 ?_
        refine go_ldc2 (pc := 119) kL_X1_60 dX1_tieUse_119 ?_
        refine gx_land (pc := 122) dX1_tieUse_122 (fun v166 v166x => ?_)
        have k167 := bd_e k165 (so_land v166x)
        refine gx_lor (pc := 123) dX1_tieUse_123 (fun v168 v168x => ?_)
        have k169 := bd_e k167 (so_lor v168x)
        refine gi_last (pc := 124) (len := 40) hv157 (ti_rfl a2) rfl (by omega) (by omega) dX1_tieUse_124 (fun h170 hv170 hv170e => ?_)
        have fx170 : FX KAc h h170 := FX.pL fx157 hv170e (by unfold KAc; omega)
        have k171 := bd_e k169 (st_L hv170e)
        exact gi_vret (pc := 125) ⟨rfl, hv170, (k171.symm.trans kf), fx170⟩ hv170 dX1_tieUse_125
    ·
      have k172 := if_f k124 q125
      refine go_iload_n (pc := 32) rfl dX1_tieUse_32 ?_
      refine go_invS (pc := 33) (sl := 0) (s_X7_portOfField2_f l (d + 0) hv a4 (by rw [show (a4 : Int32).toInt = a4.toInt from (ti_rfl a4)]; omega) (by rw [show (a4 : Int32).toInt = a4.toInt from (ti_rfl a4)]; omega)) mL_X1_137 iM_X7_portOfField rfl rfl (Nat.le_of_ble_eq_true rfl) (show d + 0 + 1 + 1 ≤ d + 2 by omega) (show 8 + (1 + 11) + 40 * (d + 0 + 1) ≤ 40 * (d + 2) by omega) (g_c0 hv.ln) (Nat.le_of_ble_eq_true rfl) dX1_tieUse_33 ?_
      intro r h173 hq _
      obtain ⟨v175, rfl, v175l, v175u, rfl, f174⟩ := hq
      replace f174 : PE _ _ := f174
      have k176 := bd_e k172 f174.symm
      refine go_goto (pc := 36) (tgt := 40) (by decide) dX1_tieUse_36 ?_
      refine go_istore (pc := 40) (Nat.le_of_ble_eq_true rfl) dX1_tieUse_40 (go_lv (lv2 := [(0, .ref 57), (1, .int a2), (2, .int a3), (3, .int a4), (4, .long v1), (6, .int v117), (7, .int v175)]) rfl ?_)
      refine go_aload_n (pc := 42) rfl dX1_tieUse_42 ?_
      refine go_iload_n (pc := 43) rfl dX1_tieUse_43 ?_
      refine go_iload_n (pc := 44) rfl dX1_tieUse_44 ?_
      refine go_iconst (pc := 45) (v := 0) (by decide) dX1_tieUse_45 ?_
      refine go_lload (pc := 46) rfl dX1_tieUse_46 ?_
      refine go_ldc2 (pc := 48) kL_X1_60 dX1_tieUse_48 ?_
      refine gx_land (pc := 51) dX1_tieUse_51 (fun v177 v177x => ?_)
      have k178 := bd_e k176 (so_land v177x)
      refine go_aload_n (pc := 52) rfl dX1_tieUse_52 ?_
      refine gi_getC (pc := 53) hv fL_X1_30 rfl (Nat.le_of_ble_eq_true rfl) rfl (by decide) dX1_tieUse_53 (fun c179 hc179 fc179 => ?_)
      have k180 := bd_e k178 (st_c fc179)
      refine gx_getL (pc := 56) hv fL_X1_141 (by rcases hc179 with rfl | rfl <;> rfl) (Nat.le_of_ble_eq_true rfl) rfl dX1_tieUse_56 (fun v181 v181w => ?_)
      have k182 := bd_e k180 v181w.symm
      refine go_ldc2 (pc := 59) kL_X1_145 dX1_tieUse_59 ?_
      refine gx_lxor (pc := 62) dX1_tieUse_62 (fun v183 v183x => ?_)
      have k184 := bd_e k182 (so_lxor v183x)
      refine gx_land (pc := 63) dX1_tieUse_63 (fun v185 v185x => ?_)
      have k186 := bd_e k184 (so_land v185x)
      refine go_invV (pc := 64) (sl := 0) (s_X1_tie2_f l (d + 0) hv a2 (by rw [show (a2 : Int32).toInt = a2.toInt from (ti_rfl a2)]; omega) (by rw [show (a2 : Int32).toInt = a2.toInt from (ti_rfl a2)]; omega) a3 (by rw [show (a3 : Int32).toInt = a3.toInt from (ti_rfl a3)]; omega) (by rw [show (a3 : Int32).toInt = a3.toInt from (ti_rfl a3)]; omega) 0 (by rw [show (0 : Int32).toInt = 0 from (ti_c (v := 0) (a := 0) (by decide))]; omega) (by rw [show (0 : Int32).toInt = 0 from (ti_c (v := 0) (a := 0) (by decide))]; omega) v185) mL_X1_103 iM_X1_tie sM_X1_tie (hv.sh rfl) rfl rfl rfl (Nat.le_of_ble_eq_true rfl) (show d + 0 + 1 + 1 ≤ d + 2 by omega) (show 8 + (6 + 11) + 40 * (d + 0 + 1) ≤ 40 * (d + 2) by omega) (g_c0 hv.ln) (Nat.le_of_ble_eq_true rfl) dX1_tieUse_64 ?_
      intro r h187 hq _
      obtain ⟨rfl, hv187, f188, f189⟩ := hq
      try rw [show (0 : Int32).toInt = 0 from (ti_c (v := 0) (a := 0) (by decide))] at f188
      try rw [show (0 : Int32).toInt = 0 from (ti_c (v := 0) (a := 0) (by decide))] at f189
      have fx187 : FX KAc h h187 := FX.tr fx f189
      have k190 := bd_e k186 f188.symm
      refine go_aload_n (pc := 67) rfl dX1_tieUse_67 ?_
      refine go_iload_n (pc := 68) rfl dX1_tieUse_68 ?_
      refine go_iload_n (pc := 69) rfl dX1_tieUse_69 ?_
      refine go_bipush (pc := 70) (v := 7) (by decide) dX1_tieUse_70 ?_
      refine go_iload (pc := 72) rfl dX1_tieUse_72 ?_
      refine gf_iadd (pc := 74) (ti_c (v := 7) (a := 7) (by decide)) (ti_rfl v117) (by omega) (by omega) dX1_tieUse_74 (fun v191 e192 => ?_)
      refine go_lload (pc := 75) rfl dX1_tieUse_75 ?_
      refine go_aload_n (pc := 77) rfl dX1_tieUse_77 ?_
      refine gi_getC (pc := 78) hv187 fL_X1_30 rfl (Nat.le_of_ble_eq_true rfl) rfl (by decide) dX1_tieUse_78 (fun c193 hc193 fc193 => ?_)
      have k194 := bd_e k190 (st_c fc193)
      refine gx_getL (pc := 81) hv187 fL_X1_141 (by rcases hc193 with rfl | rfl <;> rfl) (Nat.le_of_ble_eq_true rfl) rfl dX1_tieUse_81 (fun v195 v195w => ?_)
      have k196 := bd_e k194 v195w.symm
      refine gx_land (pc := 84) dX1_tieUse_84 (fun v197 v197x => ?_)
      have k198 := bd_e k196 (so_land v197x)
      refine go_invV (pc := 85) (sl := 0) (s_X1_tie2_f l (d + 0) hv187 a2 (by rw [show (a2 : Int32).toInt = a2.toInt from (ti_rfl a2)]; omega) (by rw [show (a2 : Int32).toInt = a2.toInt from (ti_rfl a2)]; omega) a3 (by rw [show (a3 : Int32).toInt = a3.toInt from (ti_rfl a3)]; omega) (by rw [show (a3 : Int32).toInt = a3.toInt from (ti_rfl a3)]; omega) v191 (by rw [show (v191 : Int32).toInt = (7 + v117.toInt) from e192]; omega) (by rw [show (v191 : Int32).toInt = (7 + v117.toInt) from e192]; omega) v197) mL_X1_103 iM_X1_tie sM_X1_tie (hv187.sh rfl) rfl rfl rfl (Nat.le_of_ble_eq_true rfl) (show d + 0 + 1 + 1 ≤ d + 2 by omega) (show 8 + (6 + 11) + 40 * (d + 0 + 1) ≤ 40 * (d + 2) by omega) (g_c0 hv187.ln) (Nat.le_of_ble_eq_true rfl) dX1_tieUse_85 ?_
      intro r h199 hq _
      obtain ⟨rfl, hv199, f200, f201⟩ := hq
      try rw [show (v191 : Int32).toInt = (7 + v117.toInt) from e192] at f200
      try rw [show (v191 : Int32).toInt = (7 + v117.toInt) from e192] at f201
      have fx199 : FX KAc h h199 := FX.tr fx187 f201
      have k202 := bd_e k198 f200.symm
      refine go_aload_n (pc := 88) rfl dX1_tieUse_88 ?_
      refine go_iload_n (pc := 89) rfl dX1_tieUse_89 ?_
      refine go_iload_n (pc := 90) rfl dX1_tieUse_90 ?_
      refine go_iconst (pc := 91) (v := 1) (by decide) dX1_tieUse_91 ?_
      refine go_iload (pc := 92) rfl dX1_tieUse_92 ?_
      refine gf_iadd (pc := 94) (ti_c (v := 1) (a := 1) (by decide)) (ti_rfl v175) (by omega) (by omega) dX1_tieUse_94 (fun v203 e204 => ?_)
      refine go_lload (pc := 95) rfl dX1_tieUse_95 ?_
      refine go_ldc2 (pc := 97) kL_X1_147 dX1_tieUse_97 ?_
      refine gx_land (pc := 100) dX1_tieUse_100 (fun v205 v205x => ?_)
      have k206 := bd_e k202 (so_land v205x)
      refine go_invV (pc := 101) (sl := 0) (s_X1_tie2_f l (d + 0) hv199 a2 (by rw [show (a2 : Int32).toInt = a2.toInt from (ti_rfl a2)]; omega) (by rw [show (a2 : Int32).toInt = a2.toInt from (ti_rfl a2)]; omega) a3 (by rw [show (a3 : Int32).toInt = a3.toInt from (ti_rfl a3)]; omega) (by rw [show (a3 : Int32).toInt = a3.toInt from (ti_rfl a3)]; omega) v203 (by rw [show (v203 : Int32).toInt = (1 + v175.toInt) from e204]; omega) (by rw [show (v203 : Int32).toInt = (1 + v175.toInt) from e204]; omega) v205) mL_X1_103 iM_X1_tie sM_X1_tie (hv199.sh rfl) rfl rfl rfl (Nat.le_of_ble_eq_true rfl) (show d + 0 + 1 + 1 ≤ d + 2 by omega) (show 8 + (6 + 11) + 40 * (d + 0 + 1) ≤ 40 * (d + 2) by omega) (g_c0 hv199.ln) (Nat.le_of_ble_eq_true rfl) dX1_tieUse_101 ?_
      intro r h207 hq _
      obtain ⟨rfl, hv207, f208, f209⟩ := hq
      try rw [show (v203 : Int32).toInt = (1 + v175.toInt) from e204] at f208
      try rw [show (v203 : Int32).toInt = (1 + v175.toInt) from e204] at f209
      have fx207 : FX KAc h h207 := FX.tr fx199 f209
      have k210 := bd_e k206 f208.symm
      refine go_iload_n (pc := 104) rfl dX1_tieUse_104 ?_
      refine go_bipush (pc := 105) (v := 40) (by decide) dX1_tieUse_105 ?_
      refine gf_icmp_ge (pc := 107) (tgt := 125) (ti_rfl a2) (ti_c (v := 40) (a := 40) (by decide)) (by decide) dX1_tieUse_107 (fun q211 => ?_) (fun q211 => ?_)
      ·
        have k212 := if_t k210 q211
        exact gi_vret (pc := 125) ⟨rfl, hv207, (k212.symm.trans kf), fx207⟩ hv207 dX1_tieUse_125
      ·
        have k213 := if_f k210 (Int.not_le.mpr q211)
        refine go_aload_n (pc := 110) rfl dX1_tieUse_110 ?_
        refine gi_getF (pc := 111) (q := 59) hv207 fL_X1_15 rfl (Nat.le_of_ble_eq_true rfl) rfl (hv207.rf (by decide)) dX1_tieUse_111 ?_
        refine go_iload_n (pc := 114) rfl dX1_tieUse_114 ?_
        refine go_dup2 (pc := 115) rfl rfl dX1_tieUse_115 ?_
        refine gi_lald (pc := 116) (len := 40) hv207 (ti_rfl a2) rfl (by omega) (by omega) dX1_tieUse_116 (fun v214 v214w => ?_)
        have k215 := bd_e k213 v214w.symm
        refine go_lload (pc := 117) rfl dX1_tieUse_117 ?_
        refine go_ldc2 (pc := 119) kL_X1_60 dX1_tieUse_119 ?_
        refine gx_land (pc := 122) dX1_tieUse_122 (fun v216 v216x => ?_)
        have k217 := bd_e k215 (so_land v216x)
        refine gx_lor (pc := 123) dX1_tieUse_123 (fun v218 v218x => ?_)
        have k219 := bd_e k217 (so_lor v218x)
        refine gi_last (pc := 124) (len := 40) hv207 (ti_rfl a2) rfl (by omega) (by omega) dX1_tieUse_124 (fun h220 hv220 hv220e => ?_)
        have fx220 : FX KAc h h220 := FX.pL fx207 hv220e (by unfold KAc; omega)
        have k221 := bd_e k219 (st_L hv220e)
        exact gi_vret (pc := 125) ⟨rfl, hv220, (k221.symm.trans kf), fx220⟩ hv220 dX1_tieUse_125
def f_X1_tieByValue2_ : Nat → Nat → Int → Int → ST → ST
  | 0, _, _, _, sx => sx
  | n + 1, lab, l1, l2, sx => if lab = 2 then (bd (sx.2.2 57 6) fun c1 => bd (sx.1 c1 0) fun v3 => if v3 ≤ l2 then (bd (f_X7_isField sx l1) fun v10 => if v10 = 0 then (sx) else (f_X1_tieByValue2_ n 126 l1 0 sx)) else (bd (sx.2.2 57 6) fun c18 => bd (sx.1 (c18 + 2) (l2).toNat) fun v20 => if ¬ v20 = 1 then (bd (sx.2.2 57 6) fun c24 => bd (sx.1 (c24 + 9) (l2).toNat) fun v26 => if ¬ v26 = l1 then (bd (sx.2.2 57 6) fun c30 => bd (sx.1 (c30 + 10) (l2).toNat) fun v32 => if ¬ v32 = l1 then (f_X1_tieByValue2_ n 2 l1 ((l2 + 1)) sx) else (bd (f_X1_tieUse2 sx l2 0 l1) fun s42 => f_X1_tieByValue2_ n 2 l1 ((l2 + 1)) s42)) else (bd (f_X1_tieUse2 sx l2 0 l1) fun s52 => bd (s52.2.2 57 6) fun c56 => bd (s52.1 (c56 + 10) (l2).toNat) fun v58 => if ¬ v58 = l1 then (f_X1_tieByValue2_ n 2 l1 ((l2 + 1)) s52) else (bd (f_X1_tieUse2 s52 l2 0 l1) fun s68 => f_X1_tieByValue2_ n 2 l1 ((l2 + 1)) s68))) else (bd (sx.2.2 57 6) fun c77 => bd (sx.1 (c77 + 9) (l2).toNat) fun v79 => if ¬ v79 = l1 then (bd (sx.2.2 57 6) fun c83 => bd (sx.1 (c83 + 10) (l2).toNat) fun v85 => if ¬ v85 = l1 then (bd (f_X7_isField sx l1) fun v93 => if v93 = 0 then (f_X1_tieByValue2_ n 2 l1 ((l2 + 1)) sx) else (bd (f_X7_portOfField2 sx l1) fun v104 => bd (f_X1_tieUse2 sx l2 ((1 + v104)) l1) fun s108 => f_X1_tieByValue2_ n 2 l1 ((l2 + 1)) s108)) else (bd (f_X1_tieUse2 sx l2 2 l1) fun s117 => bd (f_X7_isField s117 l1) fun v125 => if v125 = 0 then (f_X1_tieByValue2_ n 2 l1 ((l2 + 1)) s117) else (bd (f_X7_portOfField2 s117 l1) fun v136 => bd (f_X1_tieUse2 s117 l2 ((1 + v136)) l1) fun s140 => f_X1_tieByValue2_ n 2 l1 ((l2 + 1)) s140))) else (bd (f_X1_tieUse2 sx l2 1 l1) fun s149 => bd (s149.2.2 57 6) fun c153 => bd (s149.1 (c153 + 10) (l2).toNat) fun v155 => if ¬ v155 = l1 then (bd (f_X7_isField s149 l1) fun v163 => if v163 = 0 then (f_X1_tieByValue2_ n 2 l1 ((l2 + 1)) s149) else (bd (f_X7_portOfField2 s149 l1) fun v174 => bd (f_X1_tieUse2 s149 l2 ((1 + v174)) l1) fun s178 => f_X1_tieByValue2_ n 2 l1 ((l2 + 1)) s178)) else (bd (f_X1_tieUse2 s149 l2 2 l1) fun s187 => bd (f_X7_isField s187 l1) fun v195 => if v195 = 0 then (f_X1_tieByValue2_ n 2 l1 ((l2 + 1)) s187) else (bd (f_X7_portOfField2 s187 l1) fun v206 => bd (f_X1_tieUse2 s187 l2 ((1 + v206)) l1) fun s210 => f_X1_tieByValue2_ n 2 l1 ((l2 + 1)) s210)))))) else bd (sx.2.2 57 6) fun c217 => bd (sx.1 c217 1) fun v219 => if v219 ≤ l2 then (sx) else (bd (f_X7_portOfField2 sx l1) fun v228 => bd (f_X1_tieUse2 sx ((40 + l2)) ((7 + v228)) l1) fun s232 => f_X1_tieByValue2_ n 126 l1 ((l2 + 1)) s232)
def f_X1_tieByValue2 (s : ST) (a2 : Int) : ST :=
  f_X1_tieByValue2_ 160 2 a2 0 s
set_option maxHeartbeats 4000000 in
set_option maxRecDepth 100000 in
theorem s_X1_tieByValue2_f (l : Launch) (d : Nat) {P : PP} {h : HP} (hv : Iv P h) (a2 : Int32) (a2l : 0 ≤ a2.toInt) (a2u : a2.toInt ≤ 9) : Mt l yX1_tieByValue cX1_tieByValue 4 none (d + 3) [.ref 57, .int a2] h 0 0 (fun r h' => r = none ∧ Iv P h' ∧ (st h' = f_X1_tieByValue2 (st h) a2.toInt) ∧ (FX KAc h h')) := by
  refine Mt_iv hv (by decide) (Nat.le_of_ble_eq_true rfl) ?_
  show Go l RX1 cX1_tieByValue 4 (g_rm (d + 3) 0 0) "tieByValue" none 117 0 0 (fun _ _ => True) (fun r h' => r = none ∧ Iv P h' ∧ (st h' = f_X1_tieByValue2 (st h) a2.toInt) ∧ (FX KAc h h')) 0 0 [(0, .ref 57), (1, .int a2)] [] h
  have fx : FX KAc h h := FX.rfl
  obtain ⟨fin, kf⟩ : ∃ z, z = f_X1_tieByValue2 (st h) a2.toInt := ⟨_, _root_.rfl⟩
  have k0 := kf
  unfold f_X1_tieByValue2 at k0
  have key : ∀ n : Nat, (∀ (l1 : Int32) (l2 : Int32) (hx : HP), Iv P hx → 0 ≤ l1.toInt → l1.toInt ≤ 9 → 0 ≤ l2.toInt → l2.toInt ≤ 40 → FX KAc h hx → fin = f_X1_tieByValue2_ n 2 l1.toInt l2.toInt (st hx) → (3 * (40 - l2.toInt) + 23 : Int) < n → Go l RX1 cX1_tieByValue 4 (g_rm (d + 3) 0 0) "tieByValue" none 117 0 0 (fun _ _ => True) (fun r h' => r = none ∧ Iv P h' ∧ (st h' = f_X1_tieByValue2 (st h) a2.toInt) ∧ (FX KAc h h')) 0 2 [(0, .ref 57), (1, .int l1), (2, .int l2)] [] hx) ∧ (∀ (l1 : Int32) (l2 : Int32) (hx : HP), Iv P hx → 6 ≤ l1.toInt → l1.toInt ≤ 9 → 0 ≤ l2.toInt → l2.toInt ≤ 5 → FX KAc h hx → fin = f_X1_tieByValue2_ n 126 l1.toInt l2.toInt (st hx) → (3 * (5 - l2.toInt) + 2 : Int) < n → Go l RX1 cX1_tieByValue 4 (g_rm (d + 3) 0 0) "tieByValue" none 117 0 0 (fun _ _ => True) (fun r h' => r = none ∧ Iv P h' ∧ (st h' = f_X1_tieByValue2 (st h) a2.toInt) ∧ (FX KAc h h')) 0 126 [(0, .ref 57), (1, .int l1), (2, .int l2)] [] hx) := by
    intro n
    induction n with
    | zero => exact ⟨(by intros; omega), (by intros; omega)⟩
    | succ n ih =>
      refine ⟨?_, ?_⟩
      ·
        intro l1 l2 hx hvx l1l l1u l2l l2u fxx kL hm
        rw [f_X1_tieByValue2_] at kL
        replace kL := if_t kL _root_.rfl
        refine go_iload_n (pc := 2) rfl dX1_tieByValue_2 ?_
        refine go_aload_n (pc := 3) rfl dX1_tieByValue_3 ?_
        refine gi_getC (pc := 4) hvx fL_X1_30 rfl (Nat.le_of_ble_eq_true rfl) rfl (by decide) dX1_tieByValue_4 (fun c1 hc1 fc1 => ?_)
        have k2 := bd_e kL (st_c fc1)
        refine gi_get (pc := 7) (lo := 0) (hi := 40) hvx fL_X1_62 (by rcases hc1 with rfl | rfl <;> rfl) (Nat.le_of_ble_eq_true rfl) rfl (by rcases hc1 with rfl | rfl <;> rfl) dX1_tieByValue_7 (fun v3 v3l v3u v3w => ?_)
        have k4 := bd_e k2 (congrArg Int32.toInt v3w.symm)
        refine gf_icmp_ge (pc := 10) (tgt := 117) (ti_rfl l2) (ti_rfl v3) (by decide) dX1_tieByValue_10 (fun q5 => ?_) (fun q5 => ?_)
        ·
          have k6 := if_t k4 q5
          refine go_iload_n (pc := 117) rfl dX1_tieByValue_117 ?_
          refine go_invS (pc := 118) (sl := 0) (s_X7_isField_f l (d + 1) hvx l1) mL_X1_107 iM_X7_isField rfl rfl (Nat.le_of_ble_eq_true rfl) (show d + 1 + 1 + 1 ≤ d + 3 by omega) (show 8 + (1 + 11) + 40 * (d + 1 + 1) ≤ 40 * (d + 3) by omega) (g_c0 hvx.ln) (Nat.le_of_ble_eq_true rfl) dX1_tieByValue_118 ?_
          intro r h7 hq _
          obtain ⟨v10, rfl, v10l, v10u, rfl, f11, f8, f9⟩ := hq
          replace f9 : PE _ _ := f9
          have k12 := bd_e k6 f9.symm
          refine gf_if_eq (pc := 121) (tgt := 159) (ti_rfl v10) (by decide) dX1_tieByValue_121 (fun q13 => ?_) (fun q13 => ?_)
          ·
            have k14 := if_t k12 q13
            exact gi_vret (pc := 159) ⟨rfl, hvx, (k14.symm.trans kf), fxx⟩ hvx dX1_tieByValue_159
          ·
            have k15 := if_f k12 q13
            refine go_iconst (pc := 124) (v := 0) (by decide) dX1_tieByValue_124 ?_
            refine go_istore_n (pc := 125) (Nat.le_of_ble_eq_true rfl) dX1_tieByValue_125 (go_lv (lv2 := [(0, .ref 57), (1, .int l1), (2, .int 0)]) rfl ?_)
            have z16 : (0 : Int32).toInt = 0 := (ti_c (v := 0) (a := 0) (by decide))
            exact go_lv rfl (ih.2 l1 0 hx hvx (by omega) (by omega) (by omega) (by omega) fxx (by rw [show (0 : Int32).toInt = 0 from (ti_c (v := 0) (a := 0) (by decide))]; exact k15) (by omega))
        ·
          have k17 := if_f k4 (Int.not_le.mpr q5)
          refine go_aload_n (pc := 13) rfl dX1_tieByValue_13 ?_
          refine gi_getC (pc := 14) hvx fL_X1_30 rfl (Nat.le_of_ble_eq_true rfl) rfl (by decide) dX1_tieByValue_14 (fun c18 hc18 fc18 => ?_)
          have k19 := bd_e k17 (st_c fc18)
          refine gi_getF (pc := 17) (q := c18 + 2) hvx fL_X1_100 (by rcases hc18 with rfl | rfl <;> rfl) (Nat.le_of_ble_eq_true rfl) rfl (by rcases hc18 with rfl | rfl <;> exact hvx.rf (by decide)) dX1_tieByValue_17 ?_
          refine go_iload_n (pc := 20) rfl dX1_tieByValue_20 ?_
          refine gi_iald (pc := 21) (lo := 0) (hi := 5) (len := 40) hvx (ti_rfl l2) (by rcases hc18 with rfl | rfl <;> rfl) (by omega) (by omega) (fun _ => by rcases hc18 with rfl | rfl <;> rfl) dX1_tieByValue_21 (fun v20 v20l v20u v20w => ?_)
          have k21 := bd_e k19 (congrArg Int32.toInt v20w.symm)
          refine go_iconst (pc := 22) (v := 1) (by decide) dX1_tieByValue_22 ?_
          refine gf_icmp_ne (pc := 23) (tgt := 30) (ti_rfl v20) (ti_c (v := 1) (a := 1) (by decide)) (by decide) dX1_tieByValue_23 (fun q22 => ?_) (fun q22 => ?_)
          ·
            have k23 := if_t k21 q22
            refine go_iconst (pc := 30) (v := 0) (by decide) dX1_tieByValue_30 ?_
            refine go_istore_n (pc := 31) (Nat.le_of_ble_eq_true rfl) dX1_tieByValue_31 (go_lv (lv2 := [(0, .ref 57), (1, .int l1), (2, .int l2), (3, .int 0)]) rfl ?_)
            refine go_aload_n (pc := 32) rfl dX1_tieByValue_32 ?_
            refine gi_getC (pc := 33) hvx fL_X1_30 rfl (Nat.le_of_ble_eq_true rfl) rfl (by decide) dX1_tieByValue_33 (fun c24 hc24 fc24 => ?_)
            have k25 := bd_e k23 (st_c fc24)
            refine gi_getF (pc := 36) (q := c24 + 9) hvx fL_X1_127 (by rcases hc24 with rfl | rfl <;> rfl) (Nat.le_of_ble_eq_true rfl) rfl (by rcases hc24 with rfl | rfl <;> exact hvx.rf (by decide)) dX1_tieByValue_36 ?_
            refine go_iload_n (pc := 39) rfl dX1_tieByValue_39 ?_
            refine gi_iald (pc := 40) (lo := -2147483648) (hi := 2147483647) (len := 40) hvx (ti_rfl l2) (by rcases hc24 with rfl | rfl <;> rfl) (by omega) (by omega) (fun _ => by rcases hc24 with rfl | rfl <;> rfl) dX1_tieByValue_40 (fun v26 v26l v26u v26w => ?_)
            have k27 := bd_e k25 (congrArg Int32.toInt v26w.symm)
            refine go_iload_n (pc := 41) rfl dX1_tieByValue_41 ?_
            refine gf_icmp_ne (pc := 42) (tgt := 60) (ti_rfl v26) (ti_rfl l1) (by decide) dX1_tieByValue_42 (fun q28 => ?_) (fun q28 => ?_)
            ·
              have k29 := if_t k27 q28
              refine go_aload_n (pc := 60) rfl dX1_tieByValue_60 ?_
              refine gi_getC (pc := 61) hvx fL_X1_30 rfl (Nat.le_of_ble_eq_true rfl) rfl (by decide) dX1_tieByValue_61 (fun c30 hc30 fc30 => ?_)
              have k31 := bd_e k29 (st_c fc30)
              refine gi_getF (pc := 64) (q := c30 + 10) hvx fL_X1_134 (by rcases hc30 with rfl | rfl <;> rfl) (Nat.le_of_ble_eq_true rfl) rfl (by rcases hc30 with rfl | rfl <;> exact hvx.rf (by decide)) dX1_tieByValue_64 ?_
              refine go_iload_n (pc := 67) rfl dX1_tieByValue_67 ?_
              refine gi_iald (pc := 68) (lo := -2147483648) (hi := 2147483647) (len := 40) hvx (ti_rfl l2) (by rcases hc30 with rfl | rfl <;> rfl) (by omega) (by omega) (fun _ => by rcases hc30 with rfl | rfl <;> rfl) dX1_tieByValue_68 (fun v32 v32l v32u v32w => ?_)
              have k33 := bd_e k31 (congrArg Int32.toInt v32w.symm)
              refine go_iload_n (pc := 69) rfl dX1_tieByValue_69 ?_
              refine gf_icmp_ne (pc := 70) (tgt := 88) (ti_rfl v32) (ti_rfl l1) (by decide) dX1_tieByValue_70 (fun q34 => ?_) (fun q34 => ?_)
              ·
                have k35 := if_t k33 q34
                refine go_iload_n (pc := 88) rfl dX1_tieByValue_88 ?_
                refine gf_if_eq (pc := 89) (tgt := 111) (ti_c (v := 0) (a := 0) (by decide)) (by decide) dX1_tieByValue_89 (fun q36 => ?_) (fun q36 => False.elim (by omega))
                refine gf_iinc (pc := 111) (Nat.le_of_ble_eq_true rfl) rfl (ti_rfl l2) (ti_c (by decide)) (by omega) (by omega) dX1_tieByValue_111 (fun v37 e38 => ?_)
                refine go_lv (lv2 := [(0, .ref 57), (1, .int l1), (2, .int v37), (3, .int 0)]) rfl ?_
                refine go_goto (pc := 114) (tgt := 2) (by decide) dX1_tieByValue_114 ?_
                have z39 : (v37 : Int32).toInt = (l2.toInt + 1) := e38
                exact go_lv rfl (ih.1 l1 v37 hx hvx (by omega) (by omega) (by omega) (by omega) fxx (by rw [show (v37 : Int32).toInt = (l2.toInt + 1) from e38]; exact k35) (by omega))
              ·
                have k40 := if_f k33 (fun z => z q34)
                refine go_aload_n (pc := 73) rfl dX1_tieByValue_73 ?_
                refine go_iload_n (pc := 74) rfl dX1_tieByValue_74 ?_
                refine go_iload_n (pc := 75) rfl dX1_tieByValue_75 ?_
                refine gf_if_eq (pc := 76) (tgt := 83) (ti_c (v := 0) (a := 0) (by decide)) (by decide) dX1_tieByValue_76 (fun q41 => ?_) (fun q41 => False.elim (by omega))
                refine go_iconst (pc := 83) (v := 0) (by decide) dX1_tieByValue_83 ?_
                refine go_iload_n (pc := 84) rfl dX1_tieByValue_84 ?_
                refine go_invV (pc := 85) (sl := 0) (s_X1_tieUse2_f l (d + 0) hvx l2 (by rw [show (l2 : Int32).toInt = l2.toInt from (ti_rfl l2)]; omega) (by rw [show (l2 : Int32).toInt = l2.toInt from (ti_rfl l2)]; omega) 0 (by rw [show (0 : Int32).toInt = 0 from (ti_c (v := 0) (a := 0) (by decide))]; omega) (by rw [show (0 : Int32).toInt = 0 from (ti_c (v := 0) (a := 0) (by decide))]; omega) l1 (by rw [show (l1 : Int32).toInt = l1.toInt from (ti_rfl l1)]; omega) (by rw [show (l1 : Int32).toInt = l1.toInt from (ti_rfl l1)]; omega)) mL_X1_130 iM_X1_tieUse sM_X1_tieUse (hvx.sh rfl) rfl rfl rfl (Nat.le_of_ble_eq_true rfl) (show d + 0 + 2 + 1 ≤ d + 3 by omega) (show 8 + (8 + 11) + 40 * (d + 0 + 2) ≤ 40 * (d + 3) by omega) (g_c0 hvx.ln) (Nat.le_of_ble_eq_true rfl) dX1_tieByValue_85 ?_
                intro r h42 hq _
                obtain ⟨rfl, hv42, f43, f44⟩ := hq
                try rw [show (0 : Int32).toInt = 0 from (ti_c (v := 0) (a := 0) (by decide))] at f43
                try rw [show (0 : Int32).toInt = 0 from (ti_c (v := 0) (a := 0) (by decide))] at f44
                have fx42 : FX KAc h h42 := FX.tr fxx f44
                have k45 := bd_e k40 f43.symm
                refine go_iload_n (pc := 88) rfl dX1_tieByValue_88 ?_
                refine gf_if_eq (pc := 89) (tgt := 111) (ti_c (v := 0) (a := 0) (by decide)) (by decide) dX1_tieByValue_89 (fun q46 => ?_) (fun q46 => False.elim (by omega))
                refine gf_iinc (pc := 111) (Nat.le_of_ble_eq_true rfl) rfl (ti_rfl l2) (ti_c (by decide)) (by omega) (by omega) dX1_tieByValue_111 (fun v47 e48 => ?_)
                refine go_lv (lv2 := [(0, .ref 57), (1, .int l1), (2, .int v47), (3, .int 0)]) rfl ?_
                refine go_goto (pc := 114) (tgt := 2) (by decide) dX1_tieByValue_114 ?_
                have z49 : (v47 : Int32).toInt = (l2.toInt + 1) := e48
                exact go_lv rfl (ih.1 l1 v47 h42 hv42 (by omega) (by omega) (by omega) (by omega) fx42 (by rw [show (v47 : Int32).toInt = (l2.toInt + 1) from e48]; exact k45) (by omega))
            ·
              have k50 := if_f k27 (fun z => z q28)
              refine go_aload_n (pc := 45) rfl dX1_tieByValue_45 ?_
              refine go_iload_n (pc := 46) rfl dX1_tieByValue_46 ?_
              refine go_iload_n (pc := 47) rfl dX1_tieByValue_47 ?_
              refine gf_if_eq (pc := 48) (tgt := 55) (ti_c (v := 0) (a := 0) (by decide)) (by decide) dX1_tieByValue_48 (fun q51 => ?_) (fun q51 => False.elim (by omega))
              refine go_iconst (pc := 55) (v := 0) (by decide) dX1_tieByValue_55 ?_
              refine go_iload_n (pc := 56) rfl dX1_tieByValue_56 ?_
              refine go_invV (pc := 57) (sl := 0) (s_X1_tieUse2_f l (d + 0) hvx l2 (by rw [show (l2 : Int32).toInt = l2.toInt from (ti_rfl l2)]; omega) (by rw [show (l2 : Int32).toInt = l2.toInt from (ti_rfl l2)]; omega) 0 (by rw [show (0 : Int32).toInt = 0 from (ti_c (v := 0) (a := 0) (by decide))]; omega) (by rw [show (0 : Int32).toInt = 0 from (ti_c (v := 0) (a := 0) (by decide))]; omega) l1 (by rw [show (l1 : Int32).toInt = l1.toInt from (ti_rfl l1)]; omega) (by rw [show (l1 : Int32).toInt = l1.toInt from (ti_rfl l1)]; omega)) mL_X1_130 iM_X1_tieUse sM_X1_tieUse (hvx.sh rfl) rfl rfl rfl (Nat.le_of_ble_eq_true rfl) (show d + 0 + 2 + 1 ≤ d + 3 by omega) (show 8 + (8 + 11) + 40 * (d + 0 + 2) ≤ 40 * (d + 3) by omega) (g_c0 hvx.ln) (Nat.le_of_ble_eq_true rfl) dX1_tieByValue_57 ?_
              intro r h52 hq _
              obtain ⟨rfl, hv52, f53, f54⟩ := hq
              try rw [show (0 : Int32).toInt = 0 from (ti_c (v := 0) (a := 0) (by decide))] at f53
              try rw [show (0 : Int32).toInt = 0 from (ti_c (v := 0) (a := 0) (by decide))] at f54
              have fx52 : FX KAc h h52 := FX.tr fxx f54
              have k55 := bd_e k50 f53.symm
              refine go_aload_n (pc := 60) rfl dX1_tieByValue_60 ?_
              refine gi_getC (pc := 61) hv52 fL_X1_30 rfl (Nat.le_of_ble_eq_true rfl) rfl (by decide) dX1_tieByValue_61 (fun c56 hc56 fc56 => ?_)
              have k57 := bd_e k55 (st_c fc56)
              refine gi_getF (pc := 64) (q := c56 + 10) hv52 fL_X1_134 (by rcases hc56 with rfl | rfl <;> rfl) (Nat.le_of_ble_eq_true rfl) rfl (by rcases hc56 with rfl | rfl <;> exact hv52.rf (by decide)) dX1_tieByValue_64 ?_
              refine go_iload_n (pc := 67) rfl dX1_tieByValue_67 ?_
              refine gi_iald (pc := 68) (lo := -2147483648) (hi := 2147483647) (len := 40) hv52 (ti_rfl l2) (by rcases hc56 with rfl | rfl <;> rfl) (by omega) (by omega) (fun _ => by rcases hc56 with rfl | rfl <;> rfl) dX1_tieByValue_68 (fun v58 v58l v58u v58w => ?_)
              have k59 := bd_e k57 (congrArg Int32.toInt v58w.symm)
              refine go_iload_n (pc := 69) rfl dX1_tieByValue_69 ?_
              refine gf_icmp_ne (pc := 70) (tgt := 88) (ti_rfl v58) (ti_rfl l1) (by decide) dX1_tieByValue_70 (fun q60 => ?_) (fun q60 => ?_)
              ·
                have k61 := if_t k59 q60
                refine go_iload_n (pc := 88) rfl dX1_tieByValue_88 ?_
                refine gf_if_eq (pc := 89) (tgt := 111) (ti_c (v := 0) (a := 0) (by decide)) (by decide) dX1_tieByValue_89 (fun q62 => ?_) (fun q62 => False.elim (by omega))
                refine gf_iinc (pc := 111) (Nat.le_of_ble_eq_true rfl) rfl (ti_rfl l2) (ti_c (by decide)) (by omega) (by omega) dX1_tieByValue_111 (fun v63 e64 => ?_)
                refine go_lv (lv2 := [(0, .ref 57), (1, .int l1), (2, .int v63), (3, .int 0)]) rfl ?_
                refine go_goto (pc := 114) (tgt := 2) (by decide) dX1_tieByValue_114 ?_
                have z65 : (v63 : Int32).toInt = (l2.toInt + 1) := e64
                exact go_lv rfl (ih.1 l1 v63 h52 hv52 (by omega) (by omega) (by omega) (by omega) fx52 (by rw [show (v63 : Int32).toInt = (l2.toInt + 1) from e64]; exact k61) (by omega))
              ·
                have k66 := if_f k59 (fun z => z q60)
                refine go_aload_n (pc := 73) rfl dX1_tieByValue_73 ?_
                refine go_iload_n (pc := 74) rfl dX1_tieByValue_74 ?_
                refine go_iload_n (pc := 75) rfl dX1_tieByValue_75 ?_
                refine gf_if_eq (pc := 76) (tgt := 83) (ti_c (v := 0) (a := 0) (by decide)) (by decide) dX1_tieByValue_76 (fun q67 => ?_) (fun q67 => False.elim (by omega))
                refine go_iconst (pc := 83) (v := 0) (by decide) dX1_tieByValue_83 ?_
                refine go_iload_n (pc := 84) rfl dX1_tieByValue_84 ?_
                refine go_invV (pc := 85) (sl := 0) (s_X1_tieUse2_f l (d + 0) hv52 l2 (by rw [show (l2 : Int32).toInt = l2.toInt from (ti_rfl l2)]; omega) (by rw [show (l2 : Int32).toInt = l2.toInt from (ti_rfl l2)]; omega) 0 (by rw [show (0 : Int32).toInt = 0 from (ti_c (v := 0) (a := 0) (by decide))]; omega) (by rw [show (0 : Int32).toInt = 0 from (ti_c (v := 0) (a := 0) (by decide))]; omega) l1 (by rw [show (l1 : Int32).toInt = l1.toInt from (ti_rfl l1)]; omega) (by rw [show (l1 : Int32).toInt = l1.toInt from (ti_rfl l1)]; omega)) mL_X1_130 iM_X1_tieUse sM_X1_tieUse (hv52.sh rfl) rfl rfl rfl (Nat.le_of_ble_eq_true rfl) (show d + 0 + 2 + 1 ≤ d + 3 by omega) (show 8 + (8 + 11) + 40 * (d + 0 + 2) ≤ 40 * (d + 3) by omega) (g_c0 hv52.ln) (Nat.le_of_ble_eq_true rfl) dX1_tieByValue_85 ?_
                intro r h68 hq _
                obtain ⟨rfl, hv68, f69, f70⟩ := hq
                try rw [show (0 : Int32).toInt = 0 from (ti_c (v := 0) (a := 0) (by decide))] at f69
                try rw [show (0 : Int32).toInt = 0 from (ti_c (v := 0) (a := 0) (by decide))] at f70
                have fx68 : FX KAc h h68 := FX.tr fx52 f70
                have k71 := bd_e k66 f69.symm
                refine go_iload_n (pc := 88) rfl dX1_tieByValue_88 ?_
                refine gf_if_eq (pc := 89) (tgt := 111) (ti_c (v := 0) (a := 0) (by decide)) (by decide) dX1_tieByValue_89 (fun q72 => ?_) (fun q72 => False.elim (by omega))
                refine gf_iinc (pc := 111) (Nat.le_of_ble_eq_true rfl) rfl (ti_rfl l2) (ti_c (by decide)) (by omega) (by omega) dX1_tieByValue_111 (fun v73 e74 => ?_)
                refine go_lv (lv2 := [(0, .ref 57), (1, .int l1), (2, .int v73), (3, .int 0)]) rfl ?_
                refine go_goto (pc := 114) (tgt := 2) (by decide) dX1_tieByValue_114 ?_
                have z75 : (v73 : Int32).toInt = (l2.toInt + 1) := e74
                exact go_lv rfl (ih.1 l1 v73 h68 hv68 (by omega) (by omega) (by omega) (by omega) fx68 (by rw [show (v73 : Int32).toInt = (l2.toInt + 1) from e74]; exact k71) (by omega))
          ·
            have k76 := if_f k21 (fun z => z q22)
            refine go_iconst (pc := 26) (v := 1) (by decide) dX1_tieByValue_26 ?_
            refine go_goto (pc := 27) (tgt := 31) (by decide) dX1_tieByValue_27 ?_
            refine go_istore_n (pc := 31) (Nat.le_of_ble_eq_true rfl) dX1_tieByValue_31 (go_lv (lv2 := [(0, .ref 57), (1, .int l1), (2, .int l2), (3, .int 1)]) rfl ?_)
            refine go_aload_n (pc := 32) rfl dX1_tieByValue_32 ?_
            refine gi_getC (pc := 33) hvx fL_X1_30 rfl (Nat.le_of_ble_eq_true rfl) rfl (by decide) dX1_tieByValue_33 (fun c77 hc77 fc77 => ?_)
            have k78 := bd_e k76 (st_c fc77)
            refine gi_getF (pc := 36) (q := c77 + 9) hvx fL_X1_127 (by rcases hc77 with rfl | rfl <;> rfl) (Nat.le_of_ble_eq_true rfl) rfl (by rcases hc77 with rfl | rfl <;> exact hvx.rf (by decide)) dX1_tieByValue_36 ?_
            refine go_iload_n (pc := 39) rfl dX1_tieByValue_39 ?_
            refine gi_iald (pc := 40) (lo := -2147483648) (hi := 2147483647) (len := 40) hvx (ti_rfl l2) (by rcases hc77 with rfl | rfl <;> rfl) (by omega) (by omega) (fun _ => by rcases hc77 with rfl | rfl <;> rfl) dX1_tieByValue_40 (fun v79 v79l v79u v79w => ?_)
            have k80 := bd_e k78 (congrArg Int32.toInt v79w.symm)
            refine go_iload_n (pc := 41) rfl dX1_tieByValue_41 ?_
            refine gf_icmp_ne (pc := 42) (tgt := 60) (ti_rfl v79) (ti_rfl l1) (by decide) dX1_tieByValue_42 (fun q81 => ?_) (fun q81 => ?_)
            ·
              have k82 := if_t k80 q81
              refine go_aload_n (pc := 60) rfl dX1_tieByValue_60 ?_
              refine gi_getC (pc := 61) hvx fL_X1_30 rfl (Nat.le_of_ble_eq_true rfl) rfl (by decide) dX1_tieByValue_61 (fun c83 hc83 fc83 => ?_)
              have k84 := bd_e k82 (st_c fc83)
              refine gi_getF (pc := 64) (q := c83 + 10) hvx fL_X1_134 (by rcases hc83 with rfl | rfl <;> rfl) (Nat.le_of_ble_eq_true rfl) rfl (by rcases hc83 with rfl | rfl <;> exact hvx.rf (by decide)) dX1_tieByValue_64 ?_
              refine go_iload_n (pc := 67) rfl dX1_tieByValue_67 ?_
              refine gi_iald (pc := 68) (lo := -2147483648) (hi := 2147483647) (len := 40) hvx (ti_rfl l2) (by rcases hc83 with rfl | rfl <;> rfl) (by omega) (by omega) (fun _ => by rcases hc83 with rfl | rfl <;> rfl) dX1_tieByValue_68 (fun v85 v85l v85u v85w => ?_)
              have k86 := bd_e k84 (congrArg Int32.toInt v85w.symm)
              refine go_iload_n (pc := 69) rfl dX1_tieByValue_69 ?_
              refine gf_icmp_ne (pc := 70) (tgt := 88) (ti_rfl v85) (ti_rfl l1) (by decide) dX1_tieByValue_70 (fun q87 => ?_) (fun q87 => ?_)
              ·
                have k88 := if_t k86 q87
                refine go_iload_n (pc := 88) rfl dX1_tieByValue_88 ?_
                refine gf_if_eq (pc := 89) (tgt := 111) (ti_c (v := 1) (a := 1) (by decide)) (by decide) dX1_tieByValue_89 (fun q89 => False.elim (by omega)) (fun q89 => ?_)
                refine go_iload_n (pc := 92) rfl dX1_tieByValue_92 ?_
                refine go_invS (pc := 93) (sl := 0) (s_X7_isField_f l (d + 1) hvx l1) mL_X1_107 iM_X7_isField rfl rfl (Nat.le_of_ble_eq_true rfl) (show d + 1 + 1 + 1 ≤ d + 3 by omega) (show 8 + (1 + 11) + 40 * (d + 1 + 1) ≤ 40 * (d + 3) by omega) (g_c0 hvx.ln) (Nat.le_of_ble_eq_true rfl) dX1_tieByValue_93 ?_
                intro r h90 hq _
                obtain ⟨v93, rfl, v93l, v93u, rfl, f94, f91, f92⟩ := hq
                replace f92 : PE _ _ := f92
                have k95 := bd_e k88 f92.symm
                refine gf_if_eq (pc := 96) (tgt := 111) (ti_rfl v93) (by decide) dX1_tieByValue_96 (fun q96 => ?_) (fun q96 => ?_)
                ·
                  have k97 := if_t k95 q96
                  refine gf_iinc (pc := 111) (Nat.le_of_ble_eq_true rfl) rfl (ti_rfl l2) (ti_c (by decide)) (by omega) (by omega) dX1_tieByValue_111 (fun v98 e99 => ?_)
                  refine go_lv (lv2 := [(0, .ref 57), (1, .int l1), (2, .int v98), (3, .int 1)]) rfl ?_
                  refine go_goto (pc := 114) (tgt := 2) (by decide) dX1_tieByValue_114 ?_
                  have z100 : (v98 : Int32).toInt = (l2.toInt + 1) := e99
                  exact go_lv rfl (ih.1 l1 v98 hx hvx (by omega) (by omega) (by omega) (by omega) fxx (by rw [show (v98 : Int32).toInt = (l2.toInt + 1) from e99]; exact k97) (by omega))
                ·
                  have k101 := if_f k95 q96
                  refine go_aload_n (pc := 99) rfl dX1_tieByValue_99 ?_
                  refine go_iload_n (pc := 100) rfl dX1_tieByValue_100 ?_
                  refine go_iconst (pc := 101) (v := 1) (by decide) dX1_tieByValue_101 ?_
                  refine go_iload_n (pc := 102) rfl dX1_tieByValue_102 ?_
                  refine go_invS (pc := 103) (sl := 0) (s_X7_portOfField2_f l (d + 1) hvx l1 (by rw [show (l1 : Int32).toInt = l1.toInt from (ti_rfl l1)]; omega) (by rw [show (l1 : Int32).toInt = l1.toInt from (ti_rfl l1)]; omega)) mL_X1_137 iM_X7_portOfField rfl rfl (Nat.le_of_ble_eq_true rfl) (show d + 1 + 1 + 1 ≤ d + 3 by omega) (show 8 + (1 + 11) + 40 * (d + 1 + 1) ≤ 40 * (d + 3) by omega) (g_c0 hvx.ln) (Nat.le_of_ble_eq_true rfl) dX1_tieByValue_103 ?_
                  intro r h102 hq _
                  obtain ⟨v104, rfl, v104l, v104u, rfl, f103⟩ := hq
                  replace f103 : PE _ _ := f103
                  have k105 := bd_e k101 f103.symm
                  refine gf_iadd (pc := 106) (ti_c (v := 1) (a := 1) (by decide)) (ti_rfl v104) (by omega) (by omega) dX1_tieByValue_106 (fun v106 e107 => ?_)
                  refine go_iload_n (pc := 107) rfl dX1_tieByValue_107 ?_
                  refine go_invV (pc := 108) (sl := 0) (s_X1_tieUse2_f l (d + 0) hvx l2 (by rw [show (l2 : Int32).toInt = l2.toInt from (ti_rfl l2)]; omega) (by rw [show (l2 : Int32).toInt = l2.toInt from (ti_rfl l2)]; omega) v106 (by rw [show (v106 : Int32).toInt = (1 + v104.toInt) from e107]; omega) (by rw [show (v106 : Int32).toInt = (1 + v104.toInt) from e107]; omega) l1 (by rw [show (l1 : Int32).toInt = l1.toInt from (ti_rfl l1)]; omega) (by rw [show (l1 : Int32).toInt = l1.toInt from (ti_rfl l1)]; omega)) mL_X1_130 iM_X1_tieUse sM_X1_tieUse (hvx.sh rfl) rfl rfl rfl (Nat.le_of_ble_eq_true rfl) (show d + 0 + 2 + 1 ≤ d + 3 by omega) (show 8 + (8 + 11) + 40 * (d + 0 + 2) ≤ 40 * (d + 3) by omega) (g_c0 hvx.ln) (Nat.le_of_ble_eq_true rfl) dX1_tieByValue_108 ?_
                  intro r h108 hq _
                  obtain ⟨rfl, hv108, f109, f110⟩ := hq
                  try rw [show (v106 : Int32).toInt = (1 + v104.toInt) from e107] at f109
                  try rw [show (v106 : Int32).toInt = (1 + v104.toInt) from e107] at f110
                  have fx108 : FX KAc h h108 := FX.tr fxx f110
                  have k111 := bd_e k105 f109.symm
                  refine gf_iinc (pc := 111) (Nat.le_of_ble_eq_true rfl) rfl (ti_rfl l2) (ti_c (by decide)) (by omega) (by omega) dX1_tieByValue_111 (fun v112 e113 => ?_)
                  refine go_lv (lv2 := [(0, .ref 57), (1, .int l1), (2, .int v112), (3, .int 1)]) rfl ?_
                  refine go_goto (pc := 114) (tgt := 2) (by decide) dX1_tieByValue_114 ?_
                  have z114 : (v112 : Int32).toInt = (l2.toInt + 1) := e113
                  exact go_lv rfl (ih.1 l1 v112 h108 hv108 (by omega) (by omega) (by omega) (by omega) fx108 (by rw [show (v112 : Int32).toInt = (l2.toInt + 1) from e113]; exact k111) (by omega))
              ·
                have k115 := if_f k86 (fun z => z q87)
                refine go_aload_n (pc := 73) rfl dX1_tieByValue_73 ?_
                refine go_iload_n (pc := 74) rfl dX1_tieByValue_74 ?_
                refine go_iload_n (pc := 75) rfl dX1_tieByValue_75 ?_
                refine gf_if_eq (pc := 76) (tgt := 83) (ti_c (v := 1) (a := 1) (by decide)) (by decide) dX1_tieByValue_76 (fun q116 => False.elim (by omega)) (fun q116 => ?_)
                refine go_iconst (pc := 79) (v := 2) (by decide) dX1_tieByValue_79 ?_
                refine go_goto (pc := 80) (tgt := 84) (by decide) dX1_tieByValue_80 ?_
                refine go_iload_n (pc := 84) rfl dX1_tieByValue_84 ?_
                refine go_invV (pc := 85) (sl := 0) (s_X1_tieUse2_f l (d + 0) hvx l2 (by rw [show (l2 : Int32).toInt = l2.toInt from (ti_rfl l2)]; omega) (by rw [show (l2 : Int32).toInt = l2.toInt from (ti_rfl l2)]; omega) 2 (by rw [show (2 : Int32).toInt = 2 from (ti_c (v := 2) (a := 2) (by decide))]; omega) (by rw [show (2 : Int32).toInt = 2 from (ti_c (v := 2) (a := 2) (by decide))]; omega) l1 (by rw [show (l1 : Int32).toInt = l1.toInt from (ti_rfl l1)]; omega) (by rw [show (l1 : Int32).toInt = l1.toInt from (ti_rfl l1)]; omega)) mL_X1_130 iM_X1_tieUse sM_X1_tieUse (hvx.sh rfl) rfl rfl rfl (Nat.le_of_ble_eq_true rfl) (show d + 0 + 2 + 1 ≤ d + 3 by omega) (show 8 + (8 + 11) + 40 * (d + 0 + 2) ≤ 40 * (d + 3) by omega) (g_c0 hvx.ln) (Nat.le_of_ble_eq_true rfl) dX1_tieByValue_85 ?_
                intro r h117 hq _
                obtain ⟨rfl, hv117, f118, f119⟩ := hq
                try rw [show (2 : Int32).toInt = 2 from (ti_c (v := 2) (a := 2) (by decide))] at f118
                try rw [show (2 : Int32).toInt = 2 from (ti_c (v := 2) (a := 2) (by decide))] at f119
                have fx117 : FX KAc h h117 := FX.tr fxx f119
                have k120 := bd_e k115 f118.symm
                refine go_iload_n (pc := 88) rfl dX1_tieByValue_88 ?_
                refine gf_if_eq (pc := 89) (tgt := 111) (ti_c (v := 1) (a := 1) (by decide)) (by decide) dX1_tieByValue_89 (fun q121 => False.elim (by omega)) (fun q121 => ?_)
                refine go_iload_n (pc := 92) rfl dX1_tieByValue_92 ?_
                refine go_invS (pc := 93) (sl := 0) (s_X7_isField_f l (d + 1) hv117 l1) mL_X1_107 iM_X7_isField rfl rfl (Nat.le_of_ble_eq_true rfl) (show d + 1 + 1 + 1 ≤ d + 3 by omega) (show 8 + (1 + 11) + 40 * (d + 1 + 1) ≤ 40 * (d + 3) by omega) (g_c0 hv117.ln) (Nat.le_of_ble_eq_true rfl) dX1_tieByValue_93 ?_
                intro r h122 hq _
                obtain ⟨v125, rfl, v125l, v125u, rfl, f126, f123, f124⟩ := hq
                replace f124 : PE _ _ := f124
                have k127 := bd_e k120 f124.symm
                refine gf_if_eq (pc := 96) (tgt := 111) (ti_rfl v125) (by decide) dX1_tieByValue_96 (fun q128 => ?_) (fun q128 => ?_)
                ·
                  have k129 := if_t k127 q128
                  refine gf_iinc (pc := 111) (Nat.le_of_ble_eq_true rfl) rfl (ti_rfl l2) (ti_c (by decide)) (by omega) (by omega) dX1_tieByValue_111 (fun v130 e131 => ?_)
                  refine go_lv (lv2 := [(0, .ref 57), (1, .int l1), (2, .int v130), (3, .int 1)]) rfl ?_
                  refine go_goto (pc := 114) (tgt := 2) (by decide) dX1_tieByValue_114 ?_
                  have z132 : (v130 : Int32).toInt = (l2.toInt + 1) := e131
                  exact go_lv rfl (ih.1 l1 v130 h117 hv117 (by omega) (by omega) (by omega) (by omega) fx117 (by rw [show (v130 : Int32).toInt = (l2.toInt + 1) from e131]; exact k129) (by omega))
                ·
                  have k133 := if_f k127 q128
                  refine go_aload_n (pc := 99) rfl dX1_tieByValue_99 ?_
                  refine go_iload_n (pc := 100) rfl dX1_tieByValue_100 ?_
                  refine go_iconst (pc := 101) (v := 1) (by decide) dX1_tieByValue_101 ?_
                  refine go_iload_n (pc := 102) rfl dX1_tieByValue_102 ?_
                  refine go_invS (pc := 103) (sl := 0) (s_X7_portOfField2_f l (d + 1) hv117 l1 (by rw [show (l1 : Int32).toInt = l1.toInt from (ti_rfl l1)]; omega) (by rw [show (l1 : Int32).toInt = l1.toInt from (ti_rfl l1)]; omega)) mL_X1_137 iM_X7_portOfField rfl rfl (Nat.le_of_ble_eq_true rfl) (show d + 1 + 1 + 1 ≤ d + 3 by omega) (show 8 + (1 + 11) + 40 * (d + 1 + 1) ≤ 40 * (d + 3) by omega) (g_c0 hv117.ln) (Nat.le_of_ble_eq_true rfl) dX1_tieByValue_103 ?_
                  intro r h134 hq _
                  obtain ⟨v136, rfl, v136l, v136u, rfl, f135⟩ := hq
                  replace f135 : PE _ _ := f135
                  have k137 := bd_e k133 f135.symm
                  refine gf_iadd (pc := 106) (ti_c (v := 1) (a := 1) (by decide)) (ti_rfl v136) (by omega) (by omega) dX1_tieByValue_106 (fun v138 e139 => ?_)
                  refine go_iload_n (pc := 107) rfl dX1_tieByValue_107 ?_
                  refine go_invV (pc := 108) (sl := 0) (s_X1_tieUse2_f l (d + 0) hv117 l2 (by rw [show (l2 : Int32).toInt = l2.toInt from (ti_rfl l2)]; omega) (by rw [show (l2 : Int32).toInt = l2.toInt from (ti_rfl l2)]; omega) v138 (by rw [show (v138 : Int32).toInt = (1 + v136.toInt) from e139]; omega) (by rw [show (v138 : Int32).toInt = (1 + v136.toInt) from e139]; omega) l1 (by rw [show (l1 : Int32).toInt = l1.toInt from (ti_rfl l1)]; omega) (by rw [show (l1 : Int32).toInt = l1.toInt from (ti_rfl l1)]; omega)) mL_X1_130 iM_X1_tieUse sM_X1_tieUse (hv117.sh rfl) rfl rfl rfl (Nat.le_of_ble_eq_true rfl) (show d + 0 + 2 + 1 ≤ d + 3 by omega) (show 8 + (8 + 11) + 40 * (d + 0 + 2) ≤ 40 * (d + 3) by omega) (g_c0 hv117.ln) (Nat.le_of_ble_eq_true rfl) dX1_tieByValue_108 ?_
                  intro r h140 hq _
                  obtain ⟨rfl, hv140, f141, f142⟩ := hq
                  try rw [show (v138 : Int32).toInt = (1 + v136.toInt) from e139] at f141
                  try rw [show (v138 : Int32).toInt = (1 + v136.toInt) from e139] at f142
                  have fx140 : FX KAc h h140 := FX.tr fx117 f142
                  have k143 := bd_e k137 f141.symm
                  refine gf_iinc (pc := 111) (Nat.le_of_ble_eq_true rfl) rfl (ti_rfl l2) (ti_c (by decide)) (by omega) (by omega) dX1_tieByValue_111 (fun v144 e145 => ?_)
                  refine go_lv (lv2 := [(0, .ref 57), (1, .int l1), (2, .int v144), (3, .int 1)]) rfl ?_
                  refine go_goto (pc := 114) (tgt := 2) (by decide) dX1_tieByValue_114 ?_
                  have z146 : (v144 : Int32).toInt = (l2.toInt + 1) := e145
                  exact go_lv rfl (ih.1 l1 v144 h140 hv140 (by omega) (by omega) (by omega) (by omega) fx140 (by rw [show (v144 : Int32).toInt = (l2.toInt + 1) from e145]; exact k143) (by omega))
            ·
              have k147 := if_f k80 (fun z => z q81)
              refine go_aload_n (pc := 45) rfl dX1_tieByValue_45 ?_
              refine go_iload_n (pc := 46) rfl dX1_tieByValue_46 ?_
              refine go_iload_n (pc := 47) rfl dX1_tieByValue_47 ?_
              refine gf_if_eq (pc := 48) (tgt := 55) (ti_c (v := 1) (a := 1) (by decide)) (by decide) dX1_tieByValue_48 (fun q148 => False.elim (by omega)) (fun q148 => ?_)
              refine go_iconst (pc := 51) (v := 1) (by decide) dX1_tieByValue_51 ?_
              refine go_goto (pc := 52) (tgt := 56) (by decide) dX1_tieByValue_52 ?_
              refine go_iload_n (pc := 56) rfl dX1_tieByValue_56 ?_
              refine go_invV (pc := 57) (sl := 0) (s_X1_tieUse2_f l (d + 0) hvx l2 (by rw [show (l2 : Int32).toInt = l2.toInt from (ti_rfl l2)]; omega) (by rw [show (l2 : Int32).toInt = l2.toInt from (ti_rfl l2)]; omega) 1 (by rw [show (1 : Int32).toInt = 1 from (ti_c (v := 1) (a := 1) (by decide))]; omega) (by rw [show (1 : Int32).toInt = 1 from (ti_c (v := 1) (a := 1) (by decide))]; omega) l1 (by rw [show (l1 : Int32).toInt = l1.toInt from (ti_rfl l1)]; omega) (by rw [show (l1 : Int32).toInt = l1.toInt from (ti_rfl l1)]; omega)) mL_X1_130 iM_X1_tieUse sM_X1_tieUse (hvx.sh rfl) rfl rfl rfl (Nat.le_of_ble_eq_true rfl) (show d + 0 + 2 + 1 ≤ d + 3 by omega) (show 8 + (8 + 11) + 40 * (d + 0 + 2) ≤ 40 * (d + 3) by omega) (g_c0 hvx.ln) (Nat.le_of_ble_eq_true rfl) dX1_tieByValue_57 ?_
              intro r h149 hq _
              obtain ⟨rfl, hv149, f150, f151⟩ := hq
              try rw [show (1 : Int32).toInt = 1 from (ti_c (v := 1) (a := 1) (by decide))] at f150
              try rw [show (1 : Int32).toInt = 1 from (ti_c (v := 1) (a := 1) (by decide))] at f151
              have fx149 : FX KAc h h149 := FX.tr fxx f151
              have k152 := bd_e k147 f150.symm
              refine go_aload_n (pc := 60) rfl dX1_tieByValue_60 ?_
              refine gi_getC (pc := 61) hv149 fL_X1_30 rfl (Nat.le_of_ble_eq_true rfl) rfl (by decide) dX1_tieByValue_61 (fun c153 hc153 fc153 => ?_)
              have k154 := bd_e k152 (st_c fc153)
              refine gi_getF (pc := 64) (q := c153 + 10) hv149 fL_X1_134 (by rcases hc153 with rfl | rfl <;> rfl) (Nat.le_of_ble_eq_true rfl) rfl (by rcases hc153 with rfl | rfl <;> exact hv149.rf (by decide)) dX1_tieByValue_64 ?_
              refine go_iload_n (pc := 67) rfl dX1_tieByValue_67 ?_
              refine gi_iald (pc := 68) (lo := -2147483648) (hi := 2147483647) (len := 40) hv149 (ti_rfl l2) (by rcases hc153 with rfl | rfl <;> rfl) (by omega) (by omega) (fun _ => by rcases hc153 with rfl | rfl <;> rfl) dX1_tieByValue_68 (fun v155 v155l v155u v155w => ?_)
              have k156 := bd_e k154 (congrArg Int32.toInt v155w.symm)
              refine go_iload_n (pc := 69) rfl dX1_tieByValue_69 ?_
              refine gf_icmp_ne (pc := 70) (tgt := 88) (ti_rfl v155) (ti_rfl l1) (by decide) dX1_tieByValue_70 (fun q157 => ?_) (fun q157 => ?_)
              ·
                have k158 := if_t k156 q157
                refine go_iload_n (pc := 88) rfl dX1_tieByValue_88 ?_
                refine gf_if_eq (pc := 89) (tgt := 111) (ti_c (v := 1) (a := 1) (by decide)) (by decide) dX1_tieByValue_89 (fun q159 => False.elim (by omega)) (fun q159 => ?_)
                refine go_iload_n (pc := 92) rfl dX1_tieByValue_92 ?_
                refine go_invS (pc := 93) (sl := 0) (s_X7_isField_f l (d + 1) hv149 l1) mL_X1_107 iM_X7_isField rfl rfl (Nat.le_of_ble_eq_true rfl) (show d + 1 + 1 + 1 ≤ d + 3 by omega) (show 8 + (1 + 11) + 40 * (d + 1 + 1) ≤ 40 * (d + 3) by omega) (g_c0 hv149.ln) (Nat.le_of_ble_eq_true rfl) dX1_tieByValue_93 ?_
                intro r h160 hq _
                obtain ⟨v163, rfl, v163l, v163u, rfl, f164, f161, f162⟩ := hq
                replace f162 : PE _ _ := f162
                have k165 := bd_e k158 f162.symm
                refine gf_if_eq (pc := 96) (tgt := 111) (ti_rfl v163) (by decide) dX1_tieByValue_96 (fun q166 => ?_) (fun q166 => ?_)
                ·
                  have k167 := if_t k165 q166
                  refine gf_iinc (pc := 111) (Nat.le_of_ble_eq_true rfl) rfl (ti_rfl l2) (ti_c (by decide)) (by omega) (by omega) dX1_tieByValue_111 (fun v168 e169 => ?_)
                  refine go_lv (lv2 := [(0, .ref 57), (1, .int l1), (2, .int v168), (3, .int 1)]) rfl ?_
                  refine go_goto (pc := 114) (tgt := 2) (by decide) dX1_tieByValue_114 ?_
                  have z170 : (v168 : Int32).toInt = (l2.toInt + 1) := e169
                  exact go_lv rfl (ih.1 l1 v168 h149 hv149 (by omega) (by omega) (by omega) (by omega) fx149 (by rw [show (v168 : Int32).toInt = (l2.toInt + 1) from e169]; exact k167) (by omega))
                ·
                  have k171 := if_f k165 q166
                  refine go_aload_n (pc := 99) rfl dX1_tieByValue_99 ?_
                  refine go_iload_n (pc := 100) rfl dX1_tieByValue_100 ?_
                  refine go_iconst (pc := 101) (v := 1) (by decide) dX1_tieByValue_101 ?_
                  refine go_iload_n (pc := 102) rfl dX1_tieByValue_102 ?_
                  refine go_invS (pc := 103) (sl := 0) (s_X7_portOfField2_f l (d + 1) hv149 l1 (by rw [show (l1 : Int32).toInt = l1.toInt from (ti_rfl l1)]; omega) (by rw [show (l1 : Int32).toInt = l1.toInt from (ti_rfl l1)]; omega)) mL_X1_137 iM_X7_portOfField rfl rfl (Nat.le_of_ble_eq_true rfl) (show d + 1 + 1 + 1 ≤ d + 3 by omega) (show 8 + (1 + 11) + 40 * (d + 1 + 1) ≤ 40 * (d + 3) by omega) (g_c0 hv149.ln) (Nat.le_of_ble_eq_true rfl) dX1_tieByValue_103 ?_
                  intro r h172 hq _
                  obtain ⟨v174, rfl, v174l, v174u, rfl, f173⟩ := hq
                  replace f173 : PE _ _ := f173
                  have k175 := bd_e k171 f173.symm
                  refine gf_iadd (pc := 106) (ti_c (v := 1) (a := 1) (by decide)) (ti_rfl v174) (by omega) (by omega) dX1_tieByValue_106 (fun v176 e177 => ?_)
                  refine go_iload_n (pc := 107) rfl dX1_tieByValue_107 ?_
                  refine go_invV (pc := 108) (sl := 0) (s_X1_tieUse2_f l (d + 0) hv149 l2 (by rw [show (l2 : Int32).toInt = l2.toInt from (ti_rfl l2)]; omega) (by rw [show (l2 : Int32).toInt = l2.toInt from (ti_rfl l2)]; omega) v176 (by rw [show (v176 : Int32).toInt = (1 + v174.toInt) from e177]; omega) (by rw [show (v176 : Int32).toInt = (1 + v174.toInt) from e177]; omega) l1 (by rw [show (l1 : Int32).toInt = l1.toInt from (ti_rfl l1)]; omega) (by rw [show (l1 : Int32).toInt = l1.toInt from (ti_rfl l1)]; omega)) mL_X1_130 iM_X1_tieUse sM_X1_tieUse (hv149.sh rfl) rfl rfl rfl (Nat.le_of_ble_eq_true rfl) (show d + 0 + 2 + 1 ≤ d + 3 by omega) (show 8 + (8 + 11) + 40 * (d + 0 + 2) ≤ 40 * (d + 3) by omega) (g_c0 hv149.ln) (Nat.le_of_ble_eq_true rfl) dX1_tieByValue_108 ?_
                  intro r h178 hq _
                  obtain ⟨rfl, hv178, f179, f180⟩ := hq
                  try rw [show (v176 : Int32).toInt = (1 + v174.toInt) from e177] at f179
                  try rw [show (v176 : Int32).toInt = (1 + v174.toInt) from e177] at f180
                  have fx178 : FX KAc h h178 := FX.tr fx149 f180
                  have k181 := bd_e k175 f179.symm
                  refine gf_iinc (pc := 111) (Nat.le_of_ble_eq_true rfl) rfl (ti_rfl l2) (ti_c (by decide)) (by omega) (by omega) dX1_tieByValue_111 (fun v182 e183 => ?_)
                  refine go_lv (lv2 := [(0, .ref 57), (1, .int l1), (2, .int v182), (3, .int 1)]) rfl ?_
                  refine go_goto (pc := 114) (tgt := 2) (by decide) dX1_tieByValue_114 ?_
                  have z184 : (v182 : Int32).toInt = (l2.toInt + 1) := e183
                  exact go_lv rfl (ih.1 l1 v182 h178 hv178 (by omega) (by omega) (by omega) (by omega) fx178 (by rw [show (v182 : Int32).toInt = (l2.toInt + 1) from e183]; exact k181) (by omega))
              ·
                have k185 := if_f k156 (fun z => z q157)
                refine go_aload_n (pc := 73) rfl dX1_tieByValue_73 ?_
                refine go_iload_n (pc := 74) rfl dX1_tieByValue_74 ?_
                refine go_iload_n (pc := 75) rfl dX1_tieByValue_75 ?_
                refine gf_if_eq (pc := 76) (tgt := 83) (ti_c (v := 1) (a := 1) (by decide)) (by decide) dX1_tieByValue_76 (fun q186 => False.elim (by omega)) (fun q186 => ?_)
                refine go_iconst (pc := 79) (v := 2) (by decide) dX1_tieByValue_79 ?_
                refine go_goto (pc := 80) (tgt := 84) (by decide) dX1_tieByValue_80 ?_
                refine go_iload_n (pc := 84) rfl dX1_tieByValue_84 ?_
                refine go_invV (pc := 85) (sl := 0) (s_X1_tieUse2_f l (d + 0) hv149 l2 (by rw [show (l2 : Int32).toInt = l2.toInt from (ti_rfl l2)]; omega) (by rw [show (l2 : Int32).toInt = l2.toInt from (ti_rfl l2)]; omega) 2 (by rw [show (2 : Int32).toInt = 2 from (ti_c (v := 2) (a := 2) (by decide))]; omega) (by rw [show (2 : Int32).toInt = 2 from (ti_c (v := 2) (a := 2) (by decide))]; omega) l1 (by rw [show (l1 : Int32).toInt = l1.toInt from (ti_rfl l1)]; omega) (by rw [show (l1 : Int32).toInt = l1.toInt from (ti_rfl l1)]; omega)) mL_X1_130 iM_X1_tieUse sM_X1_tieUse (hv149.sh rfl) rfl rfl rfl (Nat.le_of_ble_eq_true rfl) (show d + 0 + 2 + 1 ≤ d + 3 by omega) (show 8 + (8 + 11) + 40 * (d + 0 + 2) ≤ 40 * (d + 3) by omega) (g_c0 hv149.ln) (Nat.le_of_ble_eq_true rfl) dX1_tieByValue_85 ?_
                intro r h187 hq _
                obtain ⟨rfl, hv187, f188, f189⟩ := hq
                try rw [show (2 : Int32).toInt = 2 from (ti_c (v := 2) (a := 2) (by decide))] at f188
                try rw [show (2 : Int32).toInt = 2 from (ti_c (v := 2) (a := 2) (by decide))] at f189
                have fx187 : FX KAc h h187 := FX.tr fx149 f189
                have k190 := bd_e k185 f188.symm
                refine go_iload_n (pc := 88) rfl dX1_tieByValue_88 ?_
                refine gf_if_eq (pc := 89) (tgt := 111) (ti_c (v := 1) (a := 1) (by decide)) (by decide) dX1_tieByValue_89 (fun q191 => False.elim (by omega)) (fun q191 => ?_)
                refine go_iload_n (pc := 92) rfl dX1_tieByValue_92 ?_
                refine go_invS (pc := 93) (sl := 0) (s_X7_isField_f l (d + 1) hv187 l1) mL_X1_107 iM_X7_isField rfl rfl (Nat.le_of_ble_eq_true rfl) (show d + 1 + 1 + 1 ≤ d + 3 by omega) (show 8 + (1 + 11) + 40 * (d + 1 + 1) ≤ 40 * (d + 3) by omega) (g_c0 hv187.ln) (Nat.le_of_ble_eq_true rfl) dX1_tieByValue_93 ?_
                intro r h192 hq _
                obtain ⟨v195, rfl, v195l, v195u, rfl, f196, f193, f194⟩ := hq
                replace f194 : PE _ _ := f194
                have k197 := bd_e k190 f194.symm
                refine gf_if_eq (pc := 96) (tgt := 111) (ti_rfl v195) (by decide) dX1_tieByValue_96 (fun q198 => ?_) (fun q198 => ?_)
                ·
                  have k199 := if_t k197 q198
                  refine gf_iinc (pc := 111) (Nat.le_of_ble_eq_true rfl) rfl (ti_rfl l2) (ti_c (by decide)) (by omega) (by omega) dX1_tieByValue_111 (fun v200 e201 => ?_)
                  refine go_lv (lv2 := [(0, .ref 57), (1, .int l1), (2, .int v200), (3, .int 1)]) rfl ?_
                  refine go_goto (pc := 114) (tgt := 2) (by decide) dX1_tieByValue_114 ?_
                  have z202 : (v200 : Int32).toInt = (l2.toInt + 1) := e201
                  exact go_lv rfl (ih.1 l1 v200 h187 hv187 (by omega) (by omega) (by omega) (by omega) fx187 (by rw [show (v200 : Int32).toInt = (l2.toInt + 1) from e201]; exact k199) (by omega))
                ·
                  have k203 := if_f k197 q198
                  refine go_aload_n (pc := 99) rfl dX1_tieByValue_99 ?_
                  refine go_iload_n (pc := 100) rfl dX1_tieByValue_100 ?_
                  refine go_iconst (pc := 101) (v := 1) (by decide) dX1_tieByValue_101 ?_
                  refine go_iload_n (pc := 102) rfl dX1_tieByValue_102 ?_
                  refine go_invS (pc := 103) (sl := 0) (s_X7_portOfField2_f l (d + 1) hv187 l1 (by rw [show (l1 : Int32).toInt = l1.toInt from (ti_rfl l1)]; omega) (by rw [show (l1 : Int32).toInt = l1.toInt from (ti_rfl l1)]; omega)) mL_X1_137 iM_X7_portOfField rfl rfl (Nat.le_of_ble_eq_true rfl) (show d + 1 + 1 + 1 ≤ d + 3 by omega) (show 8 + (1 + 11) + 40 * (d + 1 + 1) ≤ 40 * (d + 3) by omega) (g_c0 hv187.ln) (Nat.le_of_ble_eq_true rfl) dX1_tieByValue_103 ?_
                  intro r h204 hq _
                  obtain ⟨v206, rfl, v206l, v206u, rfl, f205⟩ := hq
                  replace f205 : PE _ _ := f205
                  have k207 := bd_e k203 f205.symm
                  refine gf_iadd (pc := 106) (ti_c (v := 1) (a := 1) (by decide)) (ti_rfl v206) (by omega) (by omega) dX1_tieByValue_106 (fun v208 e209 => ?_)
                  refine go_iload_n (pc := 107) rfl dX1_tieByValue_107 ?_
                  refine go_invV (pc := 108) (sl := 0) (s_X1_tieUse2_f l (d + 0) hv187 l2 (by rw [show (l2 : Int32).toInt = l2.toInt from (ti_rfl l2)]; omega) (by rw [show (l2 : Int32).toInt = l2.toInt from (ti_rfl l2)]; omega) v208 (by rw [show (v208 : Int32).toInt = (1 + v206.toInt) from e209]; omega) (by rw [show (v208 : Int32).toInt = (1 + v206.toInt) from e209]; omega) l1 (by rw [show (l1 : Int32).toInt = l1.toInt from (ti_rfl l1)]; omega) (by rw [show (l1 : Int32).toInt = l1.toInt from (ti_rfl l1)]; omega)) mL_X1_130 iM_X1_tieUse sM_X1_tieUse (hv187.sh rfl) rfl rfl rfl (Nat.le_of_ble_eq_true rfl) (show d + 0 + 2 + 1 ≤ d + 3 by omega) (show 8 + (8 + 11) + 40 * (d + 0 + 2) ≤ 40 * (d + 3) by omega) (g_c0 hv187.ln) (Nat.le_of_ble_eq_true rfl) dX1_tieByValue_108 ?_
                  intro r h210 hq _
                  obtain ⟨rfl, hv210, f211, f212⟩ := hq
                  try rw [show (v208 : Int32).toInt = (1 + v206.toInt) from e209] at f211
                  try rw [show (v208 : Int32).toInt = (1 + v206.toInt) from e209] at f212
                  have fx210 : FX KAc h h210 := FX.tr fx187 f212
                  have k213 := bd_e k207 f211.symm
                  refine gf_iinc (pc := 111) (Nat.le_of_ble_eq_true rfl) rfl (ti_rfl l2) (ti_c (by decide)) (by omega) (by omega) dX1_tieByValue_111 (fun v214 e215 => ?_)
                  refine go_lv (lv2 := [(0, .ref 57), (1, .int l1), (2, .int v214), (3, .int 1)]) rfl ?_
                  refine go_goto (pc := 114) (tgt := 2) (by decide) dX1_tieByValue_114 ?_
                  have z216 : (v214 : Int32).toInt = (l2.toInt + 1) := e215
                  exact go_lv rfl (ih.1 l1 v214 h210 hv210 (by omega) (by omega) (by omega) (by omega) fx210 (by rw [show (v214 : Int32).toInt = (l2.toInt + 1) from e215]; exact k213) (by omega))
      ·
        intro l1 l2 hx hvx l1l l1u l2l l2u fxx kL hm
        rw [f_X1_tieByValue2_] at kL
        replace kL := if_f kL (by decide)
        refine go_iload_n (pc := 126) rfl dX1_tieByValue_126 ?_
        refine go_aload_n (pc := 127) rfl dX1_tieByValue_127 ?_
        refine gi_getC (pc := 128) hvx fL_X1_30 rfl (Nat.le_of_ble_eq_true rfl) rfl (by decide) dX1_tieByValue_128 (fun c217 hc217 fc217 => ?_)
        have k218 := bd_e kL (st_c fc217)
        refine gi_get (pc := 131) (lo := 0) (hi := 5) hvx fL_X1_90 (by rcases hc217 with rfl | rfl <;> rfl) (Nat.le_of_ble_eq_true rfl) rfl (by rcases hc217 with rfl | rfl <;> rfl) dX1_tieByValue_131 (fun v219 v219l v219u v219w => ?_)
        have k220 := bd_e k218 (congrArg Int32.toInt v219w.symm)
        refine gf_icmp_ge (pc := 134) (tgt := 159) (ti_rfl l2) (ti_rfl v219) (by decide) dX1_tieByValue_134 (fun q221 => ?_) (fun q221 => ?_)
        ·
          have k222 := if_t k220 q221
          exact gi_vret (pc := 159) ⟨rfl, hvx, (k222.symm.trans kf), fxx⟩ hvx dX1_tieByValue_159
        ·
          have k223 := if_f k220 (Int.not_le.mpr q221)
          refine go_aload_n (pc := 137) rfl dX1_tieByValue_137 ?_
          refine go_bipush (pc := 138) (v := 40) (by decide) dX1_tieByValue_138 ?_
          refine go_iload_n (pc := 140) rfl dX1_tieByValue_140 ?_
          refine gf_iadd (pc := 141) (ti_c (v := 40) (a := 40) (by decide)) (ti_rfl l2) (by omega) (by omega) dX1_tieByValue_141 (fun v224 e225 => ?_)
          refine go_bipush (pc := 142) (v := 7) (by decide) dX1_tieByValue_142 ?_
          refine go_iload_n (pc := 144) rfl dX1_tieByValue_144 ?_
          refine go_invS (pc := 145) (sl := 0) (s_X7_portOfField2_f l (d + 1) hvx l1 (by rw [show (l1 : Int32).toInt = l1.toInt from (ti_rfl l1)]; omega) (by rw [show (l1 : Int32).toInt = l1.toInt from (ti_rfl l1)]; omega)) mL_X1_137 iM_X7_portOfField rfl rfl (Nat.le_of_ble_eq_true rfl) (show d + 1 + 1 + 1 ≤ d + 3 by omega) (show 8 + (1 + 11) + 40 * (d + 1 + 1) ≤ 40 * (d + 3) by omega) (g_c0 hvx.ln) (Nat.le_of_ble_eq_true rfl) dX1_tieByValue_145 ?_
          intro r h226 hq _
          obtain ⟨v228, rfl, v228l, v228u, rfl, f227⟩ := hq
          replace f227 : PE _ _ := f227
          have k229 := bd_e k223 f227.symm
          refine gf_iadd (pc := 148) (ti_c (v := 7) (a := 7) (by decide)) (ti_rfl v228) (by omega) (by omega) dX1_tieByValue_148 (fun v230 e231 => ?_)
          refine go_iload_n (pc := 149) rfl dX1_tieByValue_149 ?_
          refine go_invV (pc := 150) (sl := 0) (s_X1_tieUse2_f l (d + 0) hvx v224 (by rw [show (v224 : Int32).toInt = (40 + l2.toInt) from e225]; omega) (by rw [show (v224 : Int32).toInt = (40 + l2.toInt) from e225]; omega) v230 (by rw [show (v230 : Int32).toInt = (7 + v228.toInt) from e231]; omega) (by rw [show (v230 : Int32).toInt = (7 + v228.toInt) from e231]; omega) l1 (by rw [show (l1 : Int32).toInt = l1.toInt from (ti_rfl l1)]; omega) (by rw [show (l1 : Int32).toInt = l1.toInt from (ti_rfl l1)]; omega)) mL_X1_130 iM_X1_tieUse sM_X1_tieUse (hvx.sh rfl) rfl rfl rfl (Nat.le_of_ble_eq_true rfl) (show d + 0 + 2 + 1 ≤ d + 3 by omega) (show 8 + (8 + 11) + 40 * (d + 0 + 2) ≤ 40 * (d + 3) by omega) (g_c0 hvx.ln) (Nat.le_of_ble_eq_true rfl) dX1_tieByValue_150 ?_
          intro r h232 hq _
          obtain ⟨rfl, hv232, f233, f234⟩ := hq
          try rw [show (v224 : Int32).toInt = (40 + l2.toInt) from e225] at f233
          try rw [show (v230 : Int32).toInt = (7 + v228.toInt) from e231] at f233
          try rw [show (v224 : Int32).toInt = (40 + l2.toInt) from e225] at f234
          try rw [show (v230 : Int32).toInt = (7 + v228.toInt) from e231] at f234
          have fx232 : FX KAc h h232 := FX.tr fxx f234
          have k235 := bd_e k229 f233.symm
          refine gf_iinc (pc := 153) (Nat.le_of_ble_eq_true rfl) rfl (ti_rfl l2) (ti_c (by decide)) (by omega) (by omega) dX1_tieByValue_153 (fun v236 e237 => ?_)
          refine go_lv (lv2 := [(0, .ref 57), (1, .int l1), (2, .int v236)]) rfl ?_
          refine go_goto (pc := 156) (tgt := 126) (by decide) dX1_tieByValue_156 ?_
          have z238 : (v236 : Int32).toInt = (l2.toInt + 1) := e237
          exact go_lv rfl (ih.2 l1 v236 h232 hv232 (by omega) (by omega) (by omega) (by omega) fx232 (by rw [show (v236 : Int32).toInt = (l2.toInt + 1) from e237]; exact k235) (by omega))
  refine go_iconst (pc := 0) (v := 0) (by decide) dX1_tieByValue_0 ?_
  refine go_istore_n (pc := 1) (Nat.le_of_ble_eq_true rfl) dX1_tieByValue_1 (go_lv (lv2 := [(0, .ref 57), (1, .int a2), (2, .int 0)]) rfl ?_)
  have z239 : (0 : Int32).toInt = 0 := (ti_c (v := 0) (a := 0) (by decide))
  exact go_lv rfl ((key 160).1 a2 0 h hv (by omega) (by omega) (by omega) (by omega) fx (by rw [show (0 : Int32).toInt = 0 from (ti_c (v := 0) (a := 0) (by decide))]; exact k0) (by omega))
def f_X1_tieEnds2_ : Nat → Nat → Int → ST → ST
  | 0, _, _, sx => sx
  | n + 1, _, l1, sx => bd (sx.2.2 57 6) fun c1 => bd (sx.1 c1 0) fun v3 => if v3 ≤ l1 then (sx) else (bd (sx.2.2 57 6) fun c8 => bd (sx.1 (c8 + 2) (l1).toNat) fun v10 => if v10 = 5 then (bd (sx.2.2 57 6) fun c14 => bd (sx.1 (c14 + 2) (l1).toNat) fun v16 => if ¬ v16 = 1 then (bd (sx.2.2 57 6) fun c20 => bd (sx.1 (c20 + 3) (l1).toNat) fun v22 => bd (f_X7_bit sx l1) fun v29 => bd (f_X1_tie2 sx ((40 + v22)) 7 0 v29) fun s31 => bd (s31.2.2 57 6) fun c35 => bd (s31.1 c35 4) fun v37 => bd (o_i2l v37) fun v39 => bd (f_X7_has s31 v39 v22) fun v43 => if v43 = 0 then (f_X1_tieEnds2_ n 2 ((l1 + 1)) s31) else (bd (f_X7_bit s31 l1) fun v56 => bd (f_X1_tie2 s31 ((40 + v22)) 8 0 v56) fun s58 => f_X1_tieEnds2_ n 2 ((l1 + 1)) s58)) else (bd (sx.2.2 57 6) fun c66 => bd (sx.1 (c66 + 3) (l1).toNat) fun v68 => bd (f_X7_bit sx l1) fun v75 => bd (f_X1_tie2 sx ((40 + v68)) 7 7 v75) fun s77 => bd (s77.2.2 57 6) fun c81 => bd (s77.1 c81 4) fun v83 => bd (o_i2l v83) fun v85 => bd (f_X7_has s77 v85 v68) fun v89 => if v89 = 0 then (f_X1_tieEnds2_ n 2 ((l1 + 1)) s77) else (bd (f_X7_bit s77 l1) fun v102 => bd (f_X1_tie2 s77 ((40 + v68)) 8 8 v102) fun s104 => f_X1_tieEnds2_ n 2 ((l1 + 1)) s104))) else (bd (sx.2.2 57 6) fun c112 => bd (f_X0_escapes sx c112 l1) fun v116 => if ¬ v116 = 0 then (bd (sx.2.2 57 6) fun c120 => bd (sx.1 (c120 + 2) (l1).toNat) fun v122 => if ¬ v122 = 1 then (bd (sx.2.2 57 6) fun c126 => bd (sx.1 (c126 + 3) (l1).toNat) fun v128 => bd (f_X7_bit sx l1) fun v135 => bd (f_X1_tie2 sx ((40 + v128)) 7 0 v135) fun s137 => bd (s137.2.2 57 6) fun c141 => bd (s137.1 c141 4) fun v143 => bd (o_i2l v143) fun v145 => bd (f_X7_has s137 v145 v128) fun v149 => if v149 = 0 then (f_X1_tieEnds2_ n 2 ((l1 + 1)) s137) else (bd (f_X7_bit s137 l1) fun v162 => bd (f_X1_tie2 s137 ((40 + v128)) 8 0 v162) fun s164 => f_X1_tieEnds2_ n 2 ((l1 + 1)) s164)) else (bd (sx.2.2 57 6) fun c172 => bd (sx.1 (c172 + 3) (l1).toNat) fun v174 => bd (f_X7_bit sx l1) fun v181 => bd (f_X1_tie2 sx ((40 + v174)) 7 7 v181) fun s183 => bd (s183.2.2 57 6) fun c187 => bd (s183.1 c187 4) fun v189 => bd (o_i2l v189) fun v191 => bd (f_X7_has s183 v191 v174) fun v195 => if v195 = 0 then (f_X1_tieEnds2_ n 2 ((l1 + 1)) s183) else (bd (f_X7_bit s183 l1) fun v208 => bd (f_X1_tie2 s183 ((40 + v174)) 8 8 v208) fun s210 => f_X1_tieEnds2_ n 2 ((l1 + 1)) s210))) else (f_X1_tieEnds2_ n 2 ((l1 + 1)) sx)))
def f_X1_tieEnds2 (s : ST) : ST :=
  f_X1_tieEnds2_ 139 2 0 s
set_option maxHeartbeats 4000000 in
set_option maxRecDepth 100000 in
theorem s_X1_tieEnds2_f (l : Launch) (d : Nat) {P : PP} {h : HP} (hv : Iv P h)  : Mt l yX1_tieEnds cX1_tieEnds 4 none (d + 3) [.ref 57] h 0 0 (fun r h' => r = none ∧ Iv P h' ∧ (st h' = f_X1_tieEnds2 (st h)) ∧ (FX KAc h h')) := by
  refine Mt_iv hv (by decide) (Nat.le_of_ble_eq_true rfl) ?_
  show Go l RX1 cX1_tieEnds 4 (g_rm (d + 3) 0 0) "tieEnds" none 117 0 0 (fun _ _ => True) (fun r h' => r = none ∧ Iv P h' ∧ (st h' = f_X1_tieEnds2 (st h)) ∧ (FX KAc h h')) 0 0 [(0, .ref 57)] [] h
  have fx : FX KAc h h := FX.rfl
  obtain ⟨fin, kf⟩ : ∃ z, z = f_X1_tieEnds2 (st h) := ⟨_, _root_.rfl⟩
  have k0 := kf
  unfold f_X1_tieEnds2 at k0
  have key : ∀ n : Nat, (∀ (l1 : Int32) (hx : HP), Iv P hx → 0 ≤ l1.toInt → l1.toInt ≤ 40 → FX KAc h hx → fin = f_X1_tieEnds2_ n 2 l1.toInt (st hx) → (3 * (40 - l1.toInt) + 2 : Int) < n → Go l RX1 cX1_tieEnds 4 (g_rm (d + 3) 0 0) "tieEnds" none 117 0 0 (fun _ _ => True) (fun r h' => r = none ∧ Iv P h' ∧ (st h' = f_X1_tieEnds2 (st h)) ∧ (FX KAc h h')) 0 2 [(0, .ref 57), (1, .int l1)] [] hx) := by
    intro n
    induction n with
    | zero => exact (by intros; omega)
    | succ n ih =>
      refine ?_
      ·
        intro l1 hx hvx l1l l1u fxx kL hm
        rw [f_X1_tieEnds2_] at kL
        refine go_iload_n (pc := 2) rfl dX1_tieEnds_2 ?_
        refine go_aload_n (pc := 3) rfl dX1_tieEnds_3 ?_
        refine gi_getC (pc := 4) hvx fL_X1_30 rfl (Nat.le_of_ble_eq_true rfl) rfl (by decide) dX1_tieEnds_4 (fun c1 hc1 fc1 => ?_)
        have k2 := bd_e kL (st_c fc1)
        refine gi_get (pc := 7) (lo := 0) (hi := 40) hvx fL_X1_62 (by rcases hc1 with rfl | rfl <;> rfl) (Nat.le_of_ble_eq_true rfl) rfl (by rcases hc1 with rfl | rfl <;> rfl) dX1_tieEnds_7 (fun v3 v3l v3u v3w => ?_)
        have k4 := bd_e k2 (congrArg Int32.toInt v3w.symm)
        refine gf_icmp_ge (pc := 10) (tgt := 138) (ti_rfl l1) (ti_rfl v3) (by decide) dX1_tieEnds_10 (fun q5 => ?_) (fun q5 => ?_)
        ·
          have k6 := if_t k4 q5
          exact gi_vret (pc := 138) ⟨rfl, hvx, (k6.symm.trans kf), fxx⟩ hvx dX1_tieEnds_138
        ·
          have k7 := if_f k4 (Int.not_le.mpr q5)
          refine go_aload_n (pc := 13) rfl dX1_tieEnds_13 ?_
          refine gi_getC (pc := 14) hvx fL_X1_30 rfl (Nat.le_of_ble_eq_true rfl) rfl (by decide) dX1_tieEnds_14 (fun c8 hc8 fc8 => ?_)
          have k9 := bd_e k7 (st_c fc8)
          refine gi_getF (pc := 17) (q := c8 + 2) hvx fL_X1_100 (by rcases hc8 with rfl | rfl <;> rfl) (Nat.le_of_ble_eq_true rfl) rfl (by rcases hc8 with rfl | rfl <;> exact hvx.rf (by decide)) dX1_tieEnds_17 ?_
          refine go_iload_n (pc := 20) rfl dX1_tieEnds_20 ?_
          refine gi_iald (pc := 21) (lo := 0) (hi := 5) (len := 40) hvx (ti_rfl l1) (by rcases hc8 with rfl | rfl <;> rfl) (by omega) (by omega) (fun _ => by rcases hc8 with rfl | rfl <;> rfl) dX1_tieEnds_21 (fun v10 v10l v10u v10w => ?_)
          have k11 := bd_e k9 (congrArg Int32.toInt v10w.symm)
          refine go_iconst (pc := 22) (v := 5) (by decide) dX1_tieEnds_22 ?_
          refine gf_icmp_eq (pc := 23) (tgt := 40) (ti_rfl v10) (ti_c (v := 5) (a := 5) (by decide)) (by decide) dX1_tieEnds_23 (fun q12 => ?_) (fun q12 => ?_)
          ·
            have k13 := if_t k11 q12
            refine go_aload_n (pc := 40) rfl dX1_tieEnds_40 ?_
            refine gi_getC (pc := 41) hvx fL_X1_30 rfl (Nat.le_of_ble_eq_true rfl) rfl (by decide) dX1_tieEnds_41 (fun c14 hc14 fc14 => ?_)
            have k15 := bd_e k13 (st_c fc14)
            refine gi_getF (pc := 44) (q := c14 + 2) hvx fL_X1_100 (by rcases hc14 with rfl | rfl <;> rfl) (Nat.le_of_ble_eq_true rfl) rfl (by rcases hc14 with rfl | rfl <;> exact hvx.rf (by decide)) dX1_tieEnds_44 ?_
            refine go_iload_n (pc := 47) rfl dX1_tieEnds_47 ?_
            refine gi_iald (pc := 48) (lo := 0) (hi := 5) (len := 40) hvx (ti_rfl l1) (by rcases hc14 with rfl | rfl <;> rfl) (by omega) (by omega) (fun _ => by rcases hc14 with rfl | rfl <;> rfl) dX1_tieEnds_48 (fun v16 v16l v16u v16w => ?_)
            have k17 := bd_e k15 (congrArg Int32.toInt v16w.symm)
            refine go_iconst (pc := 49) (v := 1) (by decide) dX1_tieEnds_49 ?_
            refine gf_icmp_ne (pc := 50) (tgt := 57) (ti_rfl v16) (ti_c (v := 1) (a := 1) (by decide)) (by decide) dX1_tieEnds_50 (fun q18 => ?_) (fun q18 => ?_)
            ·
              have k19 := if_t k17 q18
              refine go_iconst (pc := 57) (v := 0) (by decide) dX1_tieEnds_57 ?_
              refine go_istore_n (pc := 58) (Nat.le_of_ble_eq_true rfl) dX1_tieEnds_58 (go_lv (lv2 := [(0, .ref 57), (1, .int l1), (2, .int 0)]) rfl ?_)
              refine go_aload_n (pc := 59) rfl dX1_tieEnds_59 ?_
              refine gi_getC (pc := 60) hvx fL_X1_30 rfl (Nat.le_of_ble_eq_true rfl) rfl (by decide) dX1_tieEnds_60 (fun c20 hc20 fc20 => ?_)
              have k21 := bd_e k19 (st_c fc20)
              refine gi_getF (pc := 63) (q := c20 + 3) hvx fL_X1_152 (by rcases hc20 with rfl | rfl <;> rfl) (Nat.le_of_ble_eq_true rfl) rfl (by rcases hc20 with rfl | rfl <;> exact hvx.rf (by decide)) dX1_tieEnds_63 ?_
              refine go_iload_n (pc := 66) rfl dX1_tieEnds_66 ?_
              refine gi_iald (pc := 67) (lo := -1) (hi := 4) (len := 40) hvx (ti_rfl l1) (by rcases hc20 with rfl | rfl <;> rfl) (by omega) (by omega) (fun _ => by rcases hc20 with rfl | rfl <;> rfl) dX1_tieEnds_67 (fun v22 v22l v22u v22w => ?_)
              have k23 := bd_e k21 (congrArg Int32.toInt v22w.symm)
              refine go_istore_n (pc := 68) (Nat.le_of_ble_eq_true rfl) dX1_tieEnds_68 (go_lv (lv2 := [(0, .ref 57), (1, .int l1), (2, .int 0), (3, .int v22)]) rfl ?_)
              refine go_aload_n (pc := 69) rfl dX1_tieEnds_69 ?_
              refine go_bipush (pc := 70) (v := 40) (by decide) dX1_tieEnds_70 ?_
              refine go_iload_n (pc := 72) rfl dX1_tieEnds_72 ?_
              refine gf_iadd (pc := 73) (ti_c (v := 40) (a := 40) (by decide)) (ti_rfl v22) (by omega) (by omega) dX1_tieEnds_73 (fun v24 e25 => ?_)
              refine go_bipush (pc := 74) (v := 7) (by decide) dX1_tieEnds_74 ?_
              refine go_iload_n (pc := 76) rfl dX1_tieEnds_76 ?_
              refine gf_if_eq (pc := 77) (tgt := 85) (ti_c (v := 0) (a := 0) (by decide)) (by decide) dX1_tieEnds_77 (fun q26 => ?_) (fun q26 => False.elim (by omega))
              refine go_iconst (pc := 85) (v := 0) (by decide) dX1_tieEnds_85 ?_
              refine go_iload_n (pc := 86) rfl dX1_tieEnds_86 ?_
              refine go_invS (pc := 87) (sl := 0) (s_X7_bit_f l (d + 1) hvx l1) mL_X1_79 iM_X7_bit rfl rfl (Nat.le_of_ble_eq_true rfl) (show d + 1 + 1 + 1 ≤ d + 3 by omega) (show 8 + (1 + 11) + 40 * (d + 1 + 1) ≤ 40 * (d + 3) by omega) (g_c0 hvx.ln) (Nat.le_of_ble_eq_true rfl) dX1_tieEnds_87 ?_
              intro r h27 hq _
              obtain ⟨v29, rfl, rfl, f28⟩ := hq
              have k30 := bd_e k23 f28.symm
              refine go_invV (pc := 90) (sl := 0) (s_X1_tie2_f l (d + 1) hvx v24 (by rw [show (v24 : Int32).toInt = (40 + v22.toInt) from e25]; omega) (by rw [show (v24 : Int32).toInt = (40 + v22.toInt) from e25]; omega) 7 (by rw [show (7 : Int32).toInt = 7 from (ti_c (v := 7) (a := 7) (by decide))]; omega) (by rw [show (7 : Int32).toInt = 7 from (ti_c (v := 7) (a := 7) (by decide))]; omega) 0 (by rw [show (0 : Int32).toInt = 0 from (ti_c (v := 0) (a := 0) (by decide))]; omega) (by rw [show (0 : Int32).toInt = 0 from (ti_c (v := 0) (a := 0) (by decide))]; omega) v29) mL_X1_103 iM_X1_tie sM_X1_tie (hvx.sh rfl) rfl rfl rfl (Nat.le_of_ble_eq_true rfl) (show d + 1 + 1 + 1 ≤ d + 3 by omega) (show 8 + (6 + 11) + 40 * (d + 1 + 1) ≤ 40 * (d + 3) by omega) (g_c0 hvx.ln) (Nat.le_of_ble_eq_true rfl) dX1_tieEnds_90 ?_
              intro r h31 hq _
              obtain ⟨rfl, hv31, f32, f33⟩ := hq
              try rw [show (v24 : Int32).toInt = (40 + v22.toInt) from e25] at f32
              try rw [show (7 : Int32).toInt = 7 from (ti_c (v := 7) (a := 7) (by decide))] at f32
              try rw [show (0 : Int32).toInt = 0 from (ti_c (v := 0) (a := 0) (by decide))] at f32
              try rw [show (v24 : Int32).toInt = (40 + v22.toInt) from e25] at f33
              try rw [show (7 : Int32).toInt = 7 from (ti_c (v := 7) (a := 7) (by decide))] at f33
              try rw [show (0 : Int32).toInt = 0 from (ti_c (v := 0) (a := 0) (by decide))] at f33
              have fx31 : FX KAc h h31 := FX.tr fxx f33
              have k34 := bd_e k30 f32.symm
              refine go_aload_n (pc := 93) rfl dX1_tieEnds_93 ?_
              refine gi_getC (pc := 94) hv31 fL_X1_30 rfl (Nat.le_of_ble_eq_true rfl) rfl (by decide) dX1_tieEnds_94 (fun c35 hc35 fc35 => ?_)
              have k36 := bd_e k34 (st_c fc35)
              refine gi_get (pc := 97) (lo := -2147483648) (hi := 2147483647) hv31 fL_X1_155 (by rcases hc35 with rfl | rfl <;> rfl) (Nat.le_of_ble_eq_true rfl) rfl (by rcases hc35 with rfl | rfl <;> rfl) dX1_tieEnds_97 (fun v37 v37l v37u v37w => ?_)
              have k38 := bd_e k36 (congrArg Int32.toInt v37w.symm)
              refine gx_i2l (pc := 100) dX1_tieEnds_100 (fun v39 v39x => ?_)
              have k40 := bd_e k38 (so_i2l (ti_rfl v37) v39x)
              refine go_iload_n (pc := 101) rfl dX1_tieEnds_101 ?_
              refine go_invS (pc := 102) (sl := 0) (s_X7_has_f l (d + 1) hv31 v39 v22) mL_X1_56 iM_X7_has rfl rfl (Nat.le_of_ble_eq_true rfl) (show d + 1 + 1 + 1 ≤ d + 3 by omega) (show 8 + (3 + 11) + 40 * (d + 1 + 1) ≤ 40 * (d + 3) by omega) (g_c0 hv31.ln) (Nat.le_of_ble_eq_true rfl) dX1_tieEnds_102 ?_
              intro r h41 hq _
              obtain ⟨v43, rfl, v43l, v43u, rfl, f42⟩ := hq
              replace f42 : PE _ _ := f42
              have k44 := bd_e k40 f42.symm
              refine gf_if_eq (pc := 105) (tgt := 132) (ti_rfl v43) (by decide) dX1_tieEnds_105 (fun q45 => ?_) (fun q45 => ?_)
              ·
                have k46 := if_t k44 q45
                refine gf_iinc (pc := 132) (Nat.le_of_ble_eq_true rfl) rfl (ti_rfl l1) (ti_c (by decide)) (by omega) (by omega) dX1_tieEnds_132 (fun v47 e48 => ?_)
                refine go_lv (lv2 := [(0, .ref 57), (1, .int v47), (2, .int 0), (3, .int v22)]) rfl ?_
                refine go_goto (pc := 135) (tgt := 2) (by decide) dX1_tieEnds_135 ?_
                have z49 : (v47 : Int32).toInt = (l1.toInt + 1) := e48
                exact go_lv rfl (ih v47 h31 hv31 (by omega) (by omega) fx31 (by rw [show (v47 : Int32).toInt = (l1.toInt + 1) from e48]; exact k46) (by omega))
              ·
                have k50 := if_f k44 q45
                refine go_aload_n (pc := 108) rfl dX1_tieEnds_108 ?_
                refine go_bipush (pc := 109) (v := 40) (by decide) dX1_tieEnds_109 ?_
                refine go_iload_n (pc := 111) rfl dX1_tieEnds_111 ?_
                refine gf_iadd (pc := 112) (ti_c (v := 40) (a := 40) (by decide)) (ti_rfl v22) (by omega) (by omega) dX1_tieEnds_112 (fun v51 e52 => ?_)
                refine go_bipush (pc := 113) (v := 8) (by decide) dX1_tieEnds_113 ?_
                refine go_iload_n (pc := 115) rfl dX1_tieEnds_115 ?_
                refine gf_if_eq (pc := 116) (tgt := 124) (ti_c (v := 0) (a := 0) (by decide)) (by decide) dX1_tieEnds_116 (fun q53 => ?_) (fun q53 => False.elim (by omega))
                refine go_iconst (pc := 124) (v := 0) (by decide) dX1_tieEnds_124 ?_
                refine go_iload_n (pc := 125) rfl dX1_tieEnds_125 ?_
                refine go_invS (pc := 126) (sl := 0) (s_X7_bit_f l (d + 1) hv31 l1) mL_X1_79 iM_X7_bit rfl rfl (Nat.le_of_ble_eq_true rfl) (show d + 1 + 1 + 1 ≤ d + 3 by omega) (show 8 + (1 + 11) + 40 * (d + 1 + 1) ≤ 40 * (d + 3) by omega) (g_c0 hv31.ln) (Nat.le_of_ble_eq_true rfl) dX1_tieEnds_126 ?_
                intro r h54 hq _
                obtain ⟨v56, rfl, rfl, f55⟩ := hq
                have k57 := bd_e k50 f55.symm
                refine go_invV (pc := 129) (sl := 0) (s_X1_tie2_f l (d + 1) hv31 v51 (by rw [show (v51 : Int32).toInt = (40 + v22.toInt) from e52]; omega) (by rw [show (v51 : Int32).toInt = (40 + v22.toInt) from e52]; omega) 8 (by rw [show (8 : Int32).toInt = 8 from (ti_c (v := 8) (a := 8) (by decide))]; omega) (by rw [show (8 : Int32).toInt = 8 from (ti_c (v := 8) (a := 8) (by decide))]; omega) 0 (by rw [show (0 : Int32).toInt = 0 from (ti_c (v := 0) (a := 0) (by decide))]; omega) (by rw [show (0 : Int32).toInt = 0 from (ti_c (v := 0) (a := 0) (by decide))]; omega) v56) mL_X1_103 iM_X1_tie sM_X1_tie (hv31.sh rfl) rfl rfl rfl (Nat.le_of_ble_eq_true rfl) (show d + 1 + 1 + 1 ≤ d + 3 by omega) (show 8 + (6 + 11) + 40 * (d + 1 + 1) ≤ 40 * (d + 3) by omega) (g_c0 hv31.ln) (Nat.le_of_ble_eq_true rfl) dX1_tieEnds_129 ?_
                intro r h58 hq _
                obtain ⟨rfl, hv58, f59, f60⟩ := hq
                try rw [show (v51 : Int32).toInt = (40 + v22.toInt) from e52] at f59
                try rw [show (8 : Int32).toInt = 8 from (ti_c (v := 8) (a := 8) (by decide))] at f59
                try rw [show (0 : Int32).toInt = 0 from (ti_c (v := 0) (a := 0) (by decide))] at f59
                try rw [show (v51 : Int32).toInt = (40 + v22.toInt) from e52] at f60
                try rw [show (8 : Int32).toInt = 8 from (ti_c (v := 8) (a := 8) (by decide))] at f60
                try rw [show (0 : Int32).toInt = 0 from (ti_c (v := 0) (a := 0) (by decide))] at f60
                have fx58 : FX KAc h h58 := FX.tr fx31 f60
                have k61 := bd_e k57 f59.symm
                refine gf_iinc (pc := 132) (Nat.le_of_ble_eq_true rfl) rfl (ti_rfl l1) (ti_c (by decide)) (by omega) (by omega) dX1_tieEnds_132 (fun v62 e63 => ?_)
                refine go_lv (lv2 := [(0, .ref 57), (1, .int v62), (2, .int 0), (3, .int v22)]) rfl ?_
                refine go_goto (pc := 135) (tgt := 2) (by decide) dX1_tieEnds_135 ?_
                have z64 : (v62 : Int32).toInt = (l1.toInt + 1) := e63
                exact go_lv rfl (ih v62 h58 hv58 (by omega) (by omega) fx58 (by rw [show (v62 : Int32).toInt = (l1.toInt + 1) from e63]; exact k61) (by omega))
            ·
              have k65 := if_f k17 (fun z => z q18)
              refine go_iconst (pc := 53) (v := 1) (by decide) dX1_tieEnds_53 ?_
              refine go_goto (pc := 54) (tgt := 58) (by decide) dX1_tieEnds_54 ?_
              refine go_istore_n (pc := 58) (Nat.le_of_ble_eq_true rfl) dX1_tieEnds_58 (go_lv (lv2 := [(0, .ref 57), (1, .int l1), (2, .int 1)]) rfl ?_)
              refine go_aload_n (pc := 59) rfl dX1_tieEnds_59 ?_
              refine gi_getC (pc := 60) hvx fL_X1_30 rfl (Nat.le_of_ble_eq_true rfl) rfl (by decide) dX1_tieEnds_60 (fun c66 hc66 fc66 => ?_)
              have k67 := bd_e k65 (st_c fc66)
              refine gi_getF (pc := 63) (q := c66 + 3) hvx fL_X1_152 (by rcases hc66 with rfl | rfl <;> rfl) (Nat.le_of_ble_eq_true rfl) rfl (by rcases hc66 with rfl | rfl <;> exact hvx.rf (by decide)) dX1_tieEnds_63 ?_
              refine go_iload_n (pc := 66) rfl dX1_tieEnds_66 ?_
              refine gi_iald (pc := 67) (lo := -1) (hi := 4) (len := 40) hvx (ti_rfl l1) (by rcases hc66 with rfl | rfl <;> rfl) (by omega) (by omega) (fun _ => by rcases hc66 with rfl | rfl <;> rfl) dX1_tieEnds_67 (fun v68 v68l v68u v68w => ?_)
              have k69 := bd_e k67 (congrArg Int32.toInt v68w.symm)
              refine go_istore_n (pc := 68) (Nat.le_of_ble_eq_true rfl) dX1_tieEnds_68 (go_lv (lv2 := [(0, .ref 57), (1, .int l1), (2, .int 1), (3, .int v68)]) rfl ?_)
              refine go_aload_n (pc := 69) rfl dX1_tieEnds_69 ?_
              refine go_bipush (pc := 70) (v := 40) (by decide) dX1_tieEnds_70 ?_
              refine go_iload_n (pc := 72) rfl dX1_tieEnds_72 ?_
              refine gf_iadd (pc := 73) (ti_c (v := 40) (a := 40) (by decide)) (ti_rfl v68) (by omega) (by omega) dX1_tieEnds_73 (fun v70 e71 => ?_)
              refine go_bipush (pc := 74) (v := 7) (by decide) dX1_tieEnds_74 ?_
              refine go_iload_n (pc := 76) rfl dX1_tieEnds_76 ?_
              refine gf_if_eq (pc := 77) (tgt := 85) (ti_c (v := 1) (a := 1) (by decide)) (by decide) dX1_tieEnds_77 (fun q72 => False.elim (by omega)) (fun q72 => ?_)
              refine go_bipush (pc := 80) (v := 7) (by decide) dX1_tieEnds_80 ?_
              refine go_goto (pc := 82) (tgt := 86) (by decide) dX1_tieEnds_82 ?_
              refine go_iload_n (pc := 86) rfl dX1_tieEnds_86 ?_
              refine go_invS (pc := 87) (sl := 0) (s_X7_bit_f l (d + 1) hvx l1) mL_X1_79 iM_X7_bit rfl rfl (Nat.le_of_ble_eq_true rfl) (show d + 1 + 1 + 1 ≤ d + 3 by omega) (show 8 + (1 + 11) + 40 * (d + 1 + 1) ≤ 40 * (d + 3) by omega) (g_c0 hvx.ln) (Nat.le_of_ble_eq_true rfl) dX1_tieEnds_87 ?_
              intro r h73 hq _
              obtain ⟨v75, rfl, rfl, f74⟩ := hq
              have k76 := bd_e k69 f74.symm
              refine go_invV (pc := 90) (sl := 0) (s_X1_tie2_f l (d + 1) hvx v70 (by rw [show (v70 : Int32).toInt = (40 + v68.toInt) from e71]; omega) (by rw [show (v70 : Int32).toInt = (40 + v68.toInt) from e71]; omega) 7 (by rw [show (7 : Int32).toInt = 7 from (ti_c (v := 7) (a := 7) (by decide))]; omega) (by rw [show (7 : Int32).toInt = 7 from (ti_c (v := 7) (a := 7) (by decide))]; omega) 7 (by rw [show (7 : Int32).toInt = 7 from (ti_c (v := 7) (a := 7) (by decide))]; omega) (by rw [show (7 : Int32).toInt = 7 from (ti_c (v := 7) (a := 7) (by decide))]; omega) v75) mL_X1_103 iM_X1_tie sM_X1_tie (hvx.sh rfl) rfl rfl rfl (Nat.le_of_ble_eq_true rfl) (show d + 1 + 1 + 1 ≤ d + 3 by omega) (show 8 + (6 + 11) + 40 * (d + 1 + 1) ≤ 40 * (d + 3) by omega) (g_c0 hvx.ln) (Nat.le_of_ble_eq_true rfl) dX1_tieEnds_90 ?_
              intro r h77 hq _
              obtain ⟨rfl, hv77, f78, f79⟩ := hq
              try rw [show (v70 : Int32).toInt = (40 + v68.toInt) from e71] at f78
              try rw [show (7 : Int32).toInt = 7 from (ti_c (v := 7) (a := 7) (by decide))] at f78
              try rw [show (7 : Int32).toInt = 7 from (ti_c (v := 7) (a := 7) (by decide))] at f78
              try rw [show (v70 : Int32).toInt = (40 + v68.toInt) from e71] at f79
              try rw [show (7 : Int32).toInt = 7 from (ti_c (v := 7) (a := 7) (by decide))] at f79
              try rw [show (7 : Int32).toInt = 7 from (ti_c (v := 7) (a := 7) (by decide))] at f79
              have fx77 : FX KAc h h77 := FX.tr fxx f79
              have k80 := bd_e k76 f78.symm
              refine go_aload_n (pc := 93) rfl dX1_tieEnds_93 ?_
              refine gi_getC (pc := 94) hv77 fL_X1_30 rfl (Nat.le_of_ble_eq_true rfl) rfl (by decide) dX1_tieEnds_94 (fun c81 hc81 fc81 => ?_)
              have k82 := bd_e k80 (st_c fc81)
              refine gi_get (pc := 97) (lo := -2147483648) (hi := 2147483647) hv77 fL_X1_155 (by rcases hc81 with rfl | rfl <;> rfl) (Nat.le_of_ble_eq_true rfl) rfl (by rcases hc81 with rfl | rfl <;> rfl) dX1_tieEnds_97 (fun v83 v83l v83u v83w => ?_)
              have k84 := bd_e k82 (congrArg Int32.toInt v83w.symm)
              refine gx_i2l (pc := 100) dX1_tieEnds_100 (fun v85 v85x => ?_)
              have k86 := bd_e k84 (so_i2l (ti_rfl v83) v85x)
              refine go_iload_n (pc := 101) rfl dX1_tieEnds_101 ?_
              refine go_invS (pc := 102) (sl := 0) (s_X7_has_f l (d + 1) hv77 v85 v68) mL_X1_56 iM_X7_has rfl rfl (Nat.le_of_ble_eq_true rfl) (show d + 1 + 1 + 1 ≤ d + 3 by omega) (show 8 + (3 + 11) + 40 * (d + 1 + 1) ≤ 40 * (d + 3) by omega) (g_c0 hv77.ln) (Nat.le_of_ble_eq_true rfl) dX1_tieEnds_102 ?_
              intro r h87 hq _
              obtain ⟨v89, rfl, v89l, v89u, rfl, f88⟩ := hq
              replace f88 : PE _ _ := f88
              have k90 := bd_e k86 f88.symm
              refine gf_if_eq (pc := 105) (tgt := 132) (ti_rfl v89) (by decide) dX1_tieEnds_105 (fun q91 => ?_) (fun q91 => ?_)
              ·
                have k92 := if_t k90 q91
                refine gf_iinc (pc := 132) (Nat.le_of_ble_eq_true rfl) rfl (ti_rfl l1) (ti_c (by decide)) (by omega) (by omega) dX1_tieEnds_132 (fun v93 e94 => ?_)
                refine go_lv (lv2 := [(0, .ref 57), (1, .int v93), (2, .int 1), (3, .int v68)]) rfl ?_
                refine go_goto (pc := 135) (tgt := 2) (by decide) dX1_tieEnds_135 ?_
                have z95 : (v93 : Int32).toInt = (l1.toInt + 1) := e94
                exact go_lv rfl (ih v93 h77 hv77 (by omega) (by omega) fx77 (by rw [show (v93 : Int32).toInt = (l1.toInt + 1) from e94]; exact k92) (by omega))
              ·
                have k96 := if_f k90 q91
                refine go_aload_n (pc := 108) rfl dX1_tieEnds_108 ?_
                refine go_bipush (pc := 109) (v := 40) (by decide) dX1_tieEnds_109 ?_
                refine go_iload_n (pc := 111) rfl dX1_tieEnds_111 ?_
                refine gf_iadd (pc := 112) (ti_c (v := 40) (a := 40) (by decide)) (ti_rfl v68) (by omega) (by omega) dX1_tieEnds_112 (fun v97 e98 => ?_)
                refine go_bipush (pc := 113) (v := 8) (by decide) dX1_tieEnds_113 ?_
                refine go_iload_n (pc := 115) rfl dX1_tieEnds_115 ?_
                refine gf_if_eq (pc := 116) (tgt := 124) (ti_c (v := 1) (a := 1) (by decide)) (by decide) dX1_tieEnds_116 (fun q99 => False.elim (by omega)) (fun q99 => ?_)
                refine go_bipush (pc := 119) (v := 8) (by decide) dX1_tieEnds_119 ?_
                refine go_goto (pc := 121) (tgt := 125) (by decide) dX1_tieEnds_121 ?_
                refine go_iload_n (pc := 125) rfl dX1_tieEnds_125 ?_
                refine go_invS (pc := 126) (sl := 0) (s_X7_bit_f l (d + 1) hv77 l1) mL_X1_79 iM_X7_bit rfl rfl (Nat.le_of_ble_eq_true rfl) (show d + 1 + 1 + 1 ≤ d + 3 by omega) (show 8 + (1 + 11) + 40 * (d + 1 + 1) ≤ 40 * (d + 3) by omega) (g_c0 hv77.ln) (Nat.le_of_ble_eq_true rfl) dX1_tieEnds_126 ?_
                intro r h100 hq _
                obtain ⟨v102, rfl, rfl, f101⟩ := hq
                have k103 := bd_e k96 f101.symm
                refine go_invV (pc := 129) (sl := 0) (s_X1_tie2_f l (d + 1) hv77 v97 (by rw [show (v97 : Int32).toInt = (40 + v68.toInt) from e98]; omega) (by rw [show (v97 : Int32).toInt = (40 + v68.toInt) from e98]; omega) 8 (by rw [show (8 : Int32).toInt = 8 from (ti_c (v := 8) (a := 8) (by decide))]; omega) (by rw [show (8 : Int32).toInt = 8 from (ti_c (v := 8) (a := 8) (by decide))]; omega) 8 (by rw [show (8 : Int32).toInt = 8 from (ti_c (v := 8) (a := 8) (by decide))]; omega) (by rw [show (8 : Int32).toInt = 8 from (ti_c (v := 8) (a := 8) (by decide))]; omega) v102) mL_X1_103 iM_X1_tie sM_X1_tie (hv77.sh rfl) rfl rfl rfl (Nat.le_of_ble_eq_true rfl) (show d + 1 + 1 + 1 ≤ d + 3 by omega) (show 8 + (6 + 11) + 40 * (d + 1 + 1) ≤ 40 * (d + 3) by omega) (g_c0 hv77.ln) (Nat.le_of_ble_eq_true rfl) dX1_tieEnds_129 ?_
                intro r h104 hq _
                obtain ⟨rfl, hv104, f105, f106⟩ := hq
                try rw [show (v97 : Int32).toInt = (40 + v68.toInt) from e98] at f105
                try rw [show (8 : Int32).toInt = 8 from (ti_c (v := 8) (a := 8) (by decide))] at f105
                try rw [show (8 : Int32).toInt = 8 from (ti_c (v := 8) (a := 8) (by decide))] at f105
                try rw [show (v97 : Int32).toInt = (40 + v68.toInt) from e98] at f106
                try rw [show (8 : Int32).toInt = 8 from (ti_c (v := 8) (a := 8) (by decide))] at f106
                try rw [show (8 : Int32).toInt = 8 from (ti_c (v := 8) (a := 8) (by decide))] at f106
                have fx104 : FX KAc h h104 := FX.tr fx77 f106
                have k107 := bd_e k103 f105.symm
                refine gf_iinc (pc := 132) (Nat.le_of_ble_eq_true rfl) rfl (ti_rfl l1) (ti_c (by decide)) (by omega) (by omega) dX1_tieEnds_132 (fun v108 e109 => ?_)
                refine go_lv (lv2 := [(0, .ref 57), (1, .int v108), (2, .int 1), (3, .int v68)]) rfl ?_
                refine go_goto (pc := 135) (tgt := 2) (by decide) dX1_tieEnds_135 ?_
                have z110 : (v108 : Int32).toInt = (l1.toInt + 1) := e109
                exact go_lv rfl (ih v108 h104 hv104 (by omega) (by omega) fx104 (by rw [show (v108 : Int32).toInt = (l1.toInt + 1) from e109]; exact k107) (by omega))
          ·
            have k111 := if_f k11 q12
            refine go_aload_n (pc := 26) rfl dX1_tieEnds_26 ?_
            refine gi_getC (pc := 27) hvx fL_X1_30 rfl (Nat.le_of_ble_eq_true rfl) rfl (by decide) dX1_tieEnds_27 (fun c112 hc112 fc112 => ?_)
            have k113 := bd_e k111 (st_c fc112)
            refine go_iload_n (pc := 30) rfl dX1_tieEnds_30 ?_
            refine go_invV (pc := 31) (sl := 0) (s_X0_escapes_f l (d + 0) hvx c112 hc112 l1 (by rw [show (l1 : Int32).toInt = l1.toInt from (ti_rfl l1)]; omega) (by rw [show (l1 : Int32).toInt = l1.toInt from (ti_rfl l1)]; omega)) mL_X1_149 iM_X0_escapes sM_X0_escapes (hvx.sh (by rcases hc112 with rfl | rfl <;> rfl)) rfl rfl rfl (Nat.le_of_ble_eq_true rfl) (show d + 0 + 2 + 1 ≤ d + 3 by omega) (show 8 + (2 + 11) + 40 * (d + 0 + 2) ≤ 40 * (d + 3) by omega) (g_c0 hvx.ln) (Nat.le_of_ble_eq_true rfl) dX1_tieEnds_31 ?_
            intro r h114 hq _
            obtain ⟨v116, rfl, v116l, v116u, rfl, f115⟩ := hq
            replace f115 : PE _ _ := f115
            have k117 := bd_e k113 f115.symm
            refine gf_if_ne (pc := 34) (tgt := 40) (ti_rfl v116) (by decide) dX1_tieEnds_34 (fun q118 => ?_) (fun q118 => ?_)
            ·
              have k119 := if_t k117 q118
              refine go_aload_n (pc := 40) rfl dX1_tieEnds_40 ?_
              refine gi_getC (pc := 41) hvx fL_X1_30 rfl (Nat.le_of_ble_eq_true rfl) rfl (by decide) dX1_tieEnds_41 (fun c120 hc120 fc120 => ?_)
              have k121 := bd_e k119 (st_c fc120)
              refine gi_getF (pc := 44) (q := c120 + 2) hvx fL_X1_100 (by rcases hc120 with rfl | rfl <;> rfl) (Nat.le_of_ble_eq_true rfl) rfl (by rcases hc120 with rfl | rfl <;> exact hvx.rf (by decide)) dX1_tieEnds_44 ?_
              refine go_iload_n (pc := 47) rfl dX1_tieEnds_47 ?_
              refine gi_iald (pc := 48) (lo := 0) (hi := 5) (len := 40) hvx (ti_rfl l1) (by rcases hc120 with rfl | rfl <;> rfl) (by omega) (by omega) (fun _ => by rcases hc120 with rfl | rfl <;> rfl) dX1_tieEnds_48 (fun v122 v122l v122u v122w => ?_)
              have k123 := bd_e k121 (congrArg Int32.toInt v122w.symm)
              refine go_iconst (pc := 49) (v := 1) (by decide) dX1_tieEnds_49 ?_
              refine gf_icmp_ne (pc := 50) (tgt := 57) (ti_rfl v122) (ti_c (v := 1) (a := 1) (by decide)) (by decide) dX1_tieEnds_50 (fun q124 => ?_) (fun q124 => ?_)
              ·
                have k125 := if_t k123 q124
                refine go_iconst (pc := 57) (v := 0) (by decide) dX1_tieEnds_57 ?_
                refine go_istore_n (pc := 58) (Nat.le_of_ble_eq_true rfl) dX1_tieEnds_58 (go_lv (lv2 := [(0, .ref 57), (1, .int l1), (2, .int 0)]) rfl ?_)
                refine go_aload_n (pc := 59) rfl dX1_tieEnds_59 ?_
                refine gi_getC (pc := 60) hvx fL_X1_30 rfl (Nat.le_of_ble_eq_true rfl) rfl (by decide) dX1_tieEnds_60 (fun c126 hc126 fc126 => ?_)
                have k127 := bd_e k125 (st_c fc126)
                refine gi_getF (pc := 63) (q := c126 + 3) hvx fL_X1_152 (by rcases hc126 with rfl | rfl <;> rfl) (Nat.le_of_ble_eq_true rfl) rfl (by rcases hc126 with rfl | rfl <;> exact hvx.rf (by decide)) dX1_tieEnds_63 ?_
                refine go_iload_n (pc := 66) rfl dX1_tieEnds_66 ?_
                refine gi_iald (pc := 67) (lo := -1) (hi := 4) (len := 40) hvx (ti_rfl l1) (by rcases hc126 with rfl | rfl <;> rfl) (by omega) (by omega) (fun _ => by rcases hc126 with rfl | rfl <;> rfl) dX1_tieEnds_67 (fun v128 v128l v128u v128w => ?_)
                have k129 := bd_e k127 (congrArg Int32.toInt v128w.symm)
                refine go_istore_n (pc := 68) (Nat.le_of_ble_eq_true rfl) dX1_tieEnds_68 (go_lv (lv2 := [(0, .ref 57), (1, .int l1), (2, .int 0), (3, .int v128)]) rfl ?_)
                refine go_aload_n (pc := 69) rfl dX1_tieEnds_69 ?_
                refine go_bipush (pc := 70) (v := 40) (by decide) dX1_tieEnds_70 ?_
                refine go_iload_n (pc := 72) rfl dX1_tieEnds_72 ?_
                refine gf_iadd (pc := 73) (ti_c (v := 40) (a := 40) (by decide)) (ti_rfl v128) (by omega) (by omega) dX1_tieEnds_73 (fun v130 e131 => ?_)
                refine go_bipush (pc := 74) (v := 7) (by decide) dX1_tieEnds_74 ?_
                refine go_iload_n (pc := 76) rfl dX1_tieEnds_76 ?_
                refine gf_if_eq (pc := 77) (tgt := 85) (ti_c (v := 0) (a := 0) (by decide)) (by decide) dX1_tieEnds_77 (fun q132 => ?_) (fun q132 => False.elim (by omega))
                refine go_iconst (pc := 85) (v := 0) (by decide) dX1_tieEnds_85 ?_
                refine go_iload_n (pc := 86) rfl dX1_tieEnds_86 ?_
                refine go_invS (pc := 87) (sl := 0) (s_X7_bit_f l (d + 1) hvx l1) mL_X1_79 iM_X7_bit rfl rfl (Nat.le_of_ble_eq_true rfl) (show d + 1 + 1 + 1 ≤ d + 3 by omega) (show 8 + (1 + 11) + 40 * (d + 1 + 1) ≤ 40 * (d + 3) by omega) (g_c0 hvx.ln) (Nat.le_of_ble_eq_true rfl) dX1_tieEnds_87 ?_
                intro r h133 hq _
                obtain ⟨v135, rfl, rfl, f134⟩ := hq
                have k136 := bd_e k129 f134.symm
                refine go_invV (pc := 90) (sl := 0) (s_X1_tie2_f l (d + 1) hvx v130 (by rw [show (v130 : Int32).toInt = (40 + v128.toInt) from e131]; omega) (by rw [show (v130 : Int32).toInt = (40 + v128.toInt) from e131]; omega) 7 (by rw [show (7 : Int32).toInt = 7 from (ti_c (v := 7) (a := 7) (by decide))]; omega) (by rw [show (7 : Int32).toInt = 7 from (ti_c (v := 7) (a := 7) (by decide))]; omega) 0 (by rw [show (0 : Int32).toInt = 0 from (ti_c (v := 0) (a := 0) (by decide))]; omega) (by rw [show (0 : Int32).toInt = 0 from (ti_c (v := 0) (a := 0) (by decide))]; omega) v135) mL_X1_103 iM_X1_tie sM_X1_tie (hvx.sh rfl) rfl rfl rfl (Nat.le_of_ble_eq_true rfl) (show d + 1 + 1 + 1 ≤ d + 3 by omega) (show 8 + (6 + 11) + 40 * (d + 1 + 1) ≤ 40 * (d + 3) by omega) (g_c0 hvx.ln) (Nat.le_of_ble_eq_true rfl) dX1_tieEnds_90 ?_
                intro r h137 hq _
                obtain ⟨rfl, hv137, f138, f139⟩ := hq
                try rw [show (v130 : Int32).toInt = (40 + v128.toInt) from e131] at f138
                try rw [show (7 : Int32).toInt = 7 from (ti_c (v := 7) (a := 7) (by decide))] at f138
                try rw [show (0 : Int32).toInt = 0 from (ti_c (v := 0) (a := 0) (by decide))] at f138
                try rw [show (v130 : Int32).toInt = (40 + v128.toInt) from e131] at f139
                try rw [show (7 : Int32).toInt = 7 from (ti_c (v := 7) (a := 7) (by decide))] at f139
                try rw [show (0 : Int32).toInt = 0 from (ti_c (v := 0) (a := 0) (by decide))] at f139
                have fx137 : FX KAc h h137 := FX.tr fxx f139
                have k140 := bd_e k136 f138.symm
                refine go_aload_n (pc := 93) rfl dX1_tieEnds_93 ?_
                refine gi_getC (pc := 94) hv137 fL_X1_30 rfl (Nat.le_of_ble_eq_true rfl) rfl (by decide) dX1_tieEnds_94 (fun c141 hc141 fc141 => ?_)
                have k142 := bd_e k140 (st_c fc141)
                refine gi_get (pc := 97) (lo := -2147483648) (hi := 2147483647) hv137 fL_X1_155 (by rcases hc141 with rfl | rfl <;> rfl) (Nat.le_of_ble_eq_true rfl) rfl (by rcases hc141 with rfl | rfl <;> rfl) dX1_tieEnds_97 (fun v143 v143l v143u v143w => ?_)
                have k144 := bd_e k142 (congrArg Int32.toInt v143w.symm)
                refine gx_i2l (pc := 100) dX1_tieEnds_100 (fun v145 v145x => ?_)
                have k146 := bd_e k144 (so_i2l (ti_rfl v143) v145x)
                refine go_iload_n (pc := 101) rfl dX1_tieEnds_101 ?_
                refine go_invS (pc := 102) (sl := 0) (s_X7_has_f l (d + 1) hv137 v145 v128) mL_X1_56 iM_X7_has rfl rfl (Nat.le_of_ble_eq_true rfl) (show d + 1 + 1 + 1 ≤ d + 3 by omega) (show 8 + (3 + 11) + 40 * (d + 1 + 1) ≤ 40 * (d + 3) by omega) (g_c0 hv137.ln) (Nat.le_of_ble_eq_true rfl) dX1_tieEnds_102 ?_
                intro r h147 hq _
                obtain ⟨v149, rfl, v149l, v149u, rfl, f148⟩ := hq
                replace f148 : PE _ _ := f148
                have k150 := bd_e k146 f148.symm
                refine gf_if_eq (pc := 105) (tgt := 132) (ti_rfl v149) (by decide) dX1_tieEnds_105 (fun q151 => ?_) (fun q151 => ?_)
                ·
                  have k152 := if_t k150 q151
                  refine gf_iinc (pc := 132) (Nat.le_of_ble_eq_true rfl) rfl (ti_rfl l1) (ti_c (by decide)) (by omega) (by omega) dX1_tieEnds_132 (fun v153 e154 => ?_)
                  refine go_lv (lv2 := [(0, .ref 57), (1, .int v153), (2, .int 0), (3, .int v128)]) rfl ?_
                  refine go_goto (pc := 135) (tgt := 2) (by decide) dX1_tieEnds_135 ?_
                  have z155 : (v153 : Int32).toInt = (l1.toInt + 1) := e154
                  exact go_lv rfl (ih v153 h137 hv137 (by omega) (by omega) fx137 (by rw [show (v153 : Int32).toInt = (l1.toInt + 1) from e154]; exact k152) (by omega))
                ·
                  have k156 := if_f k150 q151
                  refine go_aload_n (pc := 108) rfl dX1_tieEnds_108 ?_
                  refine go_bipush (pc := 109) (v := 40) (by decide) dX1_tieEnds_109 ?_
                  refine go_iload_n (pc := 111) rfl dX1_tieEnds_111 ?_
                  refine gf_iadd (pc := 112) (ti_c (v := 40) (a := 40) (by decide)) (ti_rfl v128) (by omega) (by omega) dX1_tieEnds_112 (fun v157 e158 => ?_)
                  refine go_bipush (pc := 113) (v := 8) (by decide) dX1_tieEnds_113 ?_
                  refine go_iload_n (pc := 115) rfl dX1_tieEnds_115 ?_
                  refine gf_if_eq (pc := 116) (tgt := 124) (ti_c (v := 0) (a := 0) (by decide)) (by decide) dX1_tieEnds_116 (fun q159 => ?_) (fun q159 => False.elim (by omega))
                  refine go_iconst (pc := 124) (v := 0) (by decide) dX1_tieEnds_124 ?_
                  refine go_iload_n (pc := 125) rfl dX1_tieEnds_125 ?_
                  refine go_invS (pc := 126) (sl := 0) (s_X7_bit_f l (d + 1) hv137 l1) mL_X1_79 iM_X7_bit rfl rfl (Nat.le_of_ble_eq_true rfl) (show d + 1 + 1 + 1 ≤ d + 3 by omega) (show 8 + (1 + 11) + 40 * (d + 1 + 1) ≤ 40 * (d + 3) by omega) (g_c0 hv137.ln) (Nat.le_of_ble_eq_true rfl) dX1_tieEnds_126 ?_
                  intro r h160 hq _
                  obtain ⟨v162, rfl, rfl, f161⟩ := hq
                  have k163 := bd_e k156 f161.symm
                  refine go_invV (pc := 129) (sl := 0) (s_X1_tie2_f l (d + 1) hv137 v157 (by rw [show (v157 : Int32).toInt = (40 + v128.toInt) from e158]; omega) (by rw [show (v157 : Int32).toInt = (40 + v128.toInt) from e158]; omega) 8 (by rw [show (8 : Int32).toInt = 8 from (ti_c (v := 8) (a := 8) (by decide))]; omega) (by rw [show (8 : Int32).toInt = 8 from (ti_c (v := 8) (a := 8) (by decide))]; omega) 0 (by rw [show (0 : Int32).toInt = 0 from (ti_c (v := 0) (a := 0) (by decide))]; omega) (by rw [show (0 : Int32).toInt = 0 from (ti_c (v := 0) (a := 0) (by decide))]; omega) v162) mL_X1_103 iM_X1_tie sM_X1_tie (hv137.sh rfl) rfl rfl rfl (Nat.le_of_ble_eq_true rfl) (show d + 1 + 1 + 1 ≤ d + 3 by omega) (show 8 + (6 + 11) + 40 * (d + 1 + 1) ≤ 40 * (d + 3) by omega) (g_c0 hv137.ln) (Nat.le_of_ble_eq_true rfl) dX1_tieEnds_129 ?_
                  intro r h164 hq _
                  obtain ⟨rfl, hv164, f165, f166⟩ := hq
                  try rw [show (v157 : Int32).toInt = (40 + v128.toInt) from e158] at f165
                  try rw [show (8 : Int32).toInt = 8 from (ti_c (v := 8) (a := 8) (by decide))] at f165
                  try rw [show (0 : Int32).toInt = 0 from (ti_c (v := 0) (a := 0) (by decide))] at f165
                  try rw [show (v157 : Int32).toInt = (40 + v128.toInt) from e158] at f166
                  try rw [show (8 : Int32).toInt = 8 from (ti_c (v := 8) (a := 8) (by decide))] at f166
                  try rw [show (0 : Int32).toInt = 0 from (ti_c (v := 0) (a := 0) (by decide))] at f166
                  have fx164 : FX KAc h h164 := FX.tr fx137 f166
                  have k167 := bd_e k163 f165.symm
                  refine gf_iinc (pc := 132) (Nat.le_of_ble_eq_true rfl) rfl (ti_rfl l1) (ti_c (by decide)) (by omega) (by omega) dX1_tieEnds_132 (fun v168 e169 => ?_)
                  refine go_lv (lv2 := [(0, .ref 57), (1, .int v168), (2, .int 0), (3, .int v128)]) rfl ?_
                  refine go_goto (pc := 135) (tgt := 2) (by decide) dX1_tieEnds_135 ?_
                  have z170 : (v168 : Int32).toInt = (l1.toInt + 1) := e169
                  exact go_lv rfl (ih v168 h164 hv164 (by omega) (by omega) fx164 (by rw [show (v168 : Int32).toInt = (l1.toInt + 1) from e169]; exact k167) (by omega))
              ·
                have k171 := if_f k123 (fun z => z q124)
                refine go_iconst (pc := 53) (v := 1) (by decide) dX1_tieEnds_53 ?_
                refine go_goto (pc := 54) (tgt := 58) (by decide) dX1_tieEnds_54 ?_
                refine go_istore_n (pc := 58) (Nat.le_of_ble_eq_true rfl) dX1_tieEnds_58 (go_lv (lv2 := [(0, .ref 57), (1, .int l1), (2, .int 1)]) rfl ?_)
                refine go_aload_n (pc := 59) rfl dX1_tieEnds_59 ?_
                refine gi_getC (pc := 60) hvx fL_X1_30 rfl (Nat.le_of_ble_eq_true rfl) rfl (by decide) dX1_tieEnds_60 (fun c172 hc172 fc172 => ?_)
                have k173 := bd_e k171 (st_c fc172)
                refine gi_getF (pc := 63) (q := c172 + 3) hvx fL_X1_152 (by rcases hc172 with rfl | rfl <;> rfl) (Nat.le_of_ble_eq_true rfl) rfl (by rcases hc172 with rfl | rfl <;> exact hvx.rf (by decide)) dX1_tieEnds_63 ?_
                refine go_iload_n (pc := 66) rfl dX1_tieEnds_66 ?_
                refine gi_iald (pc := 67) (lo := -1) (hi := 4) (len := 40) hvx (ti_rfl l1) (by rcases hc172 with rfl | rfl <;> rfl) (by omega) (by omega) (fun _ => by rcases hc172 with rfl | rfl <;> rfl) dX1_tieEnds_67 (fun v174 v174l v174u v174w => ?_)
                have k175 := bd_e k173 (congrArg Int32.toInt v174w.symm)
                refine go_istore_n (pc := 68) (Nat.le_of_ble_eq_true rfl) dX1_tieEnds_68 (go_lv (lv2 := [(0, .ref 57), (1, .int l1), (2, .int 1), (3, .int v174)]) rfl ?_)
                refine go_aload_n (pc := 69) rfl dX1_tieEnds_69 ?_
                refine go_bipush (pc := 70) (v := 40) (by decide) dX1_tieEnds_70 ?_
                refine go_iload_n (pc := 72) rfl dX1_tieEnds_72 ?_
                refine gf_iadd (pc := 73) (ti_c (v := 40) (a := 40) (by decide)) (ti_rfl v174) (by omega) (by omega) dX1_tieEnds_73 (fun v176 e177 => ?_)
                refine go_bipush (pc := 74) (v := 7) (by decide) dX1_tieEnds_74 ?_
                refine go_iload_n (pc := 76) rfl dX1_tieEnds_76 ?_
                refine gf_if_eq (pc := 77) (tgt := 85) (ti_c (v := 1) (a := 1) (by decide)) (by decide) dX1_tieEnds_77 (fun q178 => False.elim (by omega)) (fun q178 => ?_)
                refine go_bipush (pc := 80) (v := 7) (by decide) dX1_tieEnds_80 ?_
                refine go_goto (pc := 82) (tgt := 86) (by decide) dX1_tieEnds_82 ?_
                refine go_iload_n (pc := 86) rfl dX1_tieEnds_86 ?_
                refine go_invS (pc := 87) (sl := 0) (s_X7_bit_f l (d + 1) hvx l1) mL_X1_79 iM_X7_bit rfl rfl (Nat.le_of_ble_eq_true rfl) (show d + 1 + 1 + 1 ≤ d + 3 by omega) (show 8 + (1 + 11) + 40 * (d + 1 + 1) ≤ 40 * (d + 3) by omega) (g_c0 hvx.ln) (Nat.le_of_ble_eq_true rfl) dX1_tieEnds_87 ?_
                intro r h179 hq _
                obtain ⟨v181, rfl, rfl, f180⟩ := hq
                have k182 := bd_e k175 f180.symm
                refine go_invV (pc := 90) (sl := 0) (s_X1_tie2_f l (d + 1) hvx v176 (by rw [show (v176 : Int32).toInt = (40 + v174.toInt) from e177]; omega) (by rw [show (v176 : Int32).toInt = (40 + v174.toInt) from e177]; omega) 7 (by rw [show (7 : Int32).toInt = 7 from (ti_c (v := 7) (a := 7) (by decide))]; omega) (by rw [show (7 : Int32).toInt = 7 from (ti_c (v := 7) (a := 7) (by decide))]; omega) 7 (by rw [show (7 : Int32).toInt = 7 from (ti_c (v := 7) (a := 7) (by decide))]; omega) (by rw [show (7 : Int32).toInt = 7 from (ti_c (v := 7) (a := 7) (by decide))]; omega) v181) mL_X1_103 iM_X1_tie sM_X1_tie (hvx.sh rfl) rfl rfl rfl (Nat.le_of_ble_eq_true rfl) (show d + 1 + 1 + 1 ≤ d + 3 by omega) (show 8 + (6 + 11) + 40 * (d + 1 + 1) ≤ 40 * (d + 3) by omega) (g_c0 hvx.ln) (Nat.le_of_ble_eq_true rfl) dX1_tieEnds_90 ?_
                intro r h183 hq _
                obtain ⟨rfl, hv183, f184, f185⟩ := hq
                try rw [show (v176 : Int32).toInt = (40 + v174.toInt) from e177] at f184
                try rw [show (7 : Int32).toInt = 7 from (ti_c (v := 7) (a := 7) (by decide))] at f184
                try rw [show (7 : Int32).toInt = 7 from (ti_c (v := 7) (a := 7) (by decide))] at f184
                try rw [show (v176 : Int32).toInt = (40 + v174.toInt) from e177] at f185
                try rw [show (7 : Int32).toInt = 7 from (ti_c (v := 7) (a := 7) (by decide))] at f185
                try rw [show (7 : Int32).toInt = 7 from (ti_c (v := 7) (a := 7) (by decide))] at f185
                have fx183 : FX KAc h h183 := FX.tr fxx f185
                have k186 := bd_e k182 f184.symm
                refine go_aload_n (pc := 93) rfl dX1_tieEnds_93 ?_
                refine gi_getC (pc := 94) hv183 fL_X1_30 rfl (Nat.le_of_ble_eq_true rfl) rfl (by decide) dX1_tieEnds_94 (fun c187 hc187 fc187 => ?_)
                have k188 := bd_e k186 (st_c fc187)
                refine gi_get (pc := 97) (lo := -2147483648) (hi := 2147483647) hv183 fL_X1_155 (by rcases hc187 with rfl | rfl <;> rfl) (Nat.le_of_ble_eq_true rfl) rfl (by rcases hc187 with rfl | rfl <;> rfl) dX1_tieEnds_97 (fun v189 v189l v189u v189w => ?_)
                have k190 := bd_e k188 (congrArg Int32.toInt v189w.symm)
                refine gx_i2l (pc := 100) dX1_tieEnds_100 (fun v191 v191x => ?_)
                have k192 := bd_e k190 (so_i2l (ti_rfl v189) v191x)
                refine go_iload_n (pc := 101) rfl dX1_tieEnds_101 ?_
                refine go_invS (pc := 102) (sl := 0) (s_X7_has_f l (d + 1) hv183 v191 v174) mL_X1_56 iM_X7_has rfl rfl (Nat.le_of_ble_eq_true rfl) (show d + 1 + 1 + 1 ≤ d + 3 by omega) (show 8 + (3 + 11) + 40 * (d + 1 + 1) ≤ 40 * (d + 3) by omega) (g_c0 hv183.ln) (Nat.le_of_ble_eq_true rfl) dX1_tieEnds_102 ?_
                intro r h193 hq _
                obtain ⟨v195, rfl, v195l, v195u, rfl, f194⟩ := hq
                replace f194 : PE _ _ := f194
                have k196 := bd_e k192 f194.symm
                refine gf_if_eq (pc := 105) (tgt := 132) (ti_rfl v195) (by decide) dX1_tieEnds_105 (fun q197 => ?_) (fun q197 => ?_)
                ·
                  have k198 := if_t k196 q197
                  refine gf_iinc (pc := 132) (Nat.le_of_ble_eq_true rfl) rfl (ti_rfl l1) (ti_c (by decide)) (by omega) (by omega) dX1_tieEnds_132 (fun v199 e200 => ?_)
                  refine go_lv (lv2 := [(0, .ref 57), (1, .int v199), (2, .int 1), (3, .int v174)]) rfl ?_
                  refine go_goto (pc := 135) (tgt := 2) (by decide) dX1_tieEnds_135 ?_
                  have z201 : (v199 : Int32).toInt = (l1.toInt + 1) := e200
                  exact go_lv rfl (ih v199 h183 hv183 (by omega) (by omega) fx183 (by rw [show (v199 : Int32).toInt = (l1.toInt + 1) from e200]; exact k198) (by omega))
                ·
                  have k202 := if_f k196 q197
                  refine go_aload_n (pc := 108) rfl dX1_tieEnds_108 ?_
                  refine go_bipush (pc := 109) (v := 40) (by decide) dX1_tieEnds_109 ?_
                  refine go_iload_n (pc := 111) rfl dX1_tieEnds_111 ?_
                  refine gf_iadd (pc := 112) (ti_c (v := 40) (a := 40) (by decide)) (ti_rfl v174) (by omega) (by omega) dX1_tieEnds_112 (fun v203 e204 => ?_)
                  refine go_bipush (pc := 113) (v := 8) (by decide) dX1_tieEnds_113 ?_
                  refine go_iload_n (pc := 115) rfl dX1_tieEnds_115 ?_
                  refine gf_if_eq (pc := 116) (tgt := 124) (ti_c (v := 1) (a := 1) (by decide)) (by decide) dX1_tieEnds_116 (fun q205 => False.elim (by omega)) (fun q205 => ?_)
                  refine go_bipush (pc := 119) (v := 8) (by decide) dX1_tieEnds_119 ?_
                  refine go_goto (pc := 121) (tgt := 125) (by decide) dX1_tieEnds_121 ?_
                  refine go_iload_n (pc := 125) rfl dX1_tieEnds_125 ?_
                  refine go_invS (pc := 126) (sl := 0) (s_X7_bit_f l (d + 1) hv183 l1) mL_X1_79 iM_X7_bit rfl rfl (Nat.le_of_ble_eq_true rfl) (show d + 1 + 1 + 1 ≤ d + 3 by omega) (show 8 + (1 + 11) + 40 * (d + 1 + 1) ≤ 40 * (d + 3) by omega) (g_c0 hv183.ln) (Nat.le_of_ble_eq_true rfl) dX1_tieEnds_126 ?_
                  intro r h206 hq _
                  obtain ⟨v208, rfl, rfl, f207⟩ := hq
                  have k209 := bd_e k202 f207.symm
                  refine go_invV (pc := 129) (sl := 0) (s_X1_tie2_f l (d + 1) hv183 v203 (by rw [show (v203 : Int32).toInt = (40 + v174.toInt) from e204]; omega) (by rw [show (v203 : Int32).toInt = (40 + v174.toInt) from e204]; omega) 8 (by rw [show (8 : Int32).toInt = 8 from (ti_c (v := 8) (a := 8) (by decide))]; omega) (by rw [show (8 : Int32).toInt = 8 from (ti_c (v := 8) (a := 8) (by decide))]; omega) 8 (by rw [show (8 : Int32).toInt = 8 from (ti_c (v := 8) (a := 8) (by decide))]; omega) (by rw [show (8 : Int32).toInt = 8 from (ti_c (v := 8) (a := 8) (by decide))]; omega) v208) mL_X1_103 iM_X1_tie sM_X1_tie (hv183.sh rfl) rfl rfl rfl (Nat.le_of_ble_eq_true rfl) (show d + 1 + 1 + 1 ≤ d + 3 by omega) (show 8 + (6 + 11) + 40 * (d + 1 + 1) ≤ 40 * (d + 3) by omega) (g_c0 hv183.ln) (Nat.le_of_ble_eq_true rfl) dX1_tieEnds_129 ?_
                  intro r h210 hq _
                  obtain ⟨rfl, hv210, f211, f212⟩ := hq
                  try rw [show (v203 : Int32).toInt = (40 + v174.toInt) from e204] at f211
                  try rw [show (8 : Int32).toInt = 8 from (ti_c (v := 8) (a := 8) (by decide))] at f211
                  try rw [show (8 : Int32).toInt = 8 from (ti_c (v := 8) (a := 8) (by decide))] at f211
                  try rw [show (v203 : Int32).toInt = (40 + v174.toInt) from e204] at f212
                  try rw [show (8 : Int32).toInt = 8 from (ti_c (v := 8) (a := 8) (by decide))] at f212
                  try rw [show (8 : Int32).toInt = 8 from (ti_c (v := 8) (a := 8) (by decide))] at f212
                  have fx210 : FX KAc h h210 := FX.tr fx183 f212
                  have k213 := bd_e k209 f211.symm
                  refine gf_iinc (pc := 132) (Nat.le_of_ble_eq_true rfl) rfl (ti_rfl l1) (ti_c (by decide)) (by omega) (by omega) dX1_tieEnds_132 (fun v214 e215 => ?_)
                  refine go_lv (lv2 := [(0, .ref 57), (1, .int v214), (2, .int 1), (3, .int v174)]) rfl ?_
                  refine go_goto (pc := 135) (tgt := 2) (by decide) dX1_tieEnds_135 ?_
                  have z216 : (v214 : Int32).toInt = (l1.toInt + 1) := e215
                  exact go_lv rfl (ih v214 h210 hv210 (by omega) (by omega) fx210 (by rw [show (v214 : Int32).toInt = (l1.toInt + 1) from e215]; exact k213) (by omega))
            ·
              have k217 := if_f k117 (fun z => z q118)
              refine go_goto (pc := 37) (tgt := 132) (by decide) dX1_tieEnds_37 ?_
              refine gf_iinc (pc := 132) (Nat.le_of_ble_eq_true rfl) rfl (ti_rfl l1) (ti_c (by decide)) (by omega) (by omega) dX1_tieEnds_132 (fun v218 e219 => ?_)
              refine go_lv (lv2 := [(0, .ref 57), (1, .int v218)]) rfl ?_
              refine go_goto (pc := 135) (tgt := 2) (by decide) dX1_tieEnds_135 ?_
              have z220 : (v218 : Int32).toInt = (l1.toInt + 1) := e219
              exact go_lv rfl (ih v218 hx hvx (by omega) (by omega) fxx (by rw [show (v218 : Int32).toInt = (l1.toInt + 1) from e219]; exact k217) (by omega))
  refine go_iconst (pc := 0) (v := 0) (by decide) dX1_tieEnds_0 ?_
  refine go_istore_n (pc := 1) (Nat.le_of_ble_eq_true rfl) dX1_tieEnds_1 (go_lv (lv2 := [(0, .ref 57), (1, .int 0)]) rfl ?_)
  have z221 : (0 : Int32).toInt = 0 := (ti_c (v := 0) (a := 0) (by decide))
  exact go_lv rfl ((key 139) 0 h hv (by omega) (by omega) fx (by rw [show (0 : Int32).toInt = 0 from (ti_c (v := 0) (a := 0) (by decide))]; exact k0) (by omega))
def f_X1_tieCalls2_ : Nat → Nat → Int → Int → ST → ST
  | 0, _, _, _, sx => sx
  | n + 1, lab, l1, l2, sx => if lab = 2 then (bd (sx.2.2 57 6) fun c1 => bd (sx.1 c1 0) fun v3 => if v3 ≤ l1 then (sx) else (bd (sx.2.2 57 6) fun c8 => bd (sx.1 (c8 + 2) (l1).toNat) fun v10 => if ¬ v10 = 1 then (f_X1_tieCalls2_ n 2 ((l1 + 1)) 0 sx) else (f_X1_tieCalls2_ n 28 l1 1 sx))) else if 13 ≤ l2 then (f_X1_tieCalls2_ n 2 ((l1 + 1)) 0 sx) else (bd (f_X7_bit sx l1) fun v27 => bd (f_X1_tie2 sx l1 l2 0 v27) fun s29 => f_X1_tieCalls2_ n 28 l1 ((l2 + 1)) s29)
def f_X1_tieCalls2 (s : ST) : ST :=
  f_X1_tieCalls2_ 1903 2 0 0 s
set_option maxHeartbeats 4000000 in
set_option maxRecDepth 100000 in
theorem s_X1_tieCalls2_f (l : Launch) (d : Nat) {P : PP} {h : HP} (hv : Iv P h)  : Mt l yX1_tieCalls cX1_tieCalls 3 none (d + 2) [.ref 57] h 0 0 (fun r h' => r = none ∧ Iv P h' ∧ (st h' = f_X1_tieCalls2 (st h)) ∧ (FX KAc h h')) := by
  refine Mt_iv hv (by decide) (Nat.le_of_ble_eq_true rfl) ?_
  show Go l RX1 cX1_tieCalls 3 (g_rm (d + 2) 0 0) "tieCalls" none 117 0 0 (fun _ _ => True) (fun r h' => r = none ∧ Iv P h' ∧ (st h' = f_X1_tieCalls2 (st h)) ∧ (FX KAc h h')) 0 0 [(0, .ref 57)] [] h
  have fx : FX KAc h h := FX.rfl
  obtain ⟨fin, kf⟩ : ∃ z, z = f_X1_tieCalls2 (st h) := ⟨_, _root_.rfl⟩
  have k0 := kf
  unfold f_X1_tieCalls2 at k0
  have key : ∀ n : Nat, (∀ (l1 : Int32) (hx : HP), Iv P hx → 0 ≤ l1.toInt → l1.toInt ≤ 40 → FX KAc h hx → fin = f_X1_tieCalls2_ n 2 l1.toInt 0 (st hx) → (45 * (40 - l1.toInt) + 44 : Int) < n → Go l RX1 cX1_tieCalls 3 (g_rm (d + 2) 0 0) "tieCalls" none 117 0 0 (fun _ _ => True) (fun r h' => r = none ∧ Iv P h' ∧ (st h' = f_X1_tieCalls2 (st h)) ∧ (FX KAc h h')) 0 2 [(0, .ref 57), (1, .int l1)] [] hx) ∧ (∀ (l1 : Int32) (l2 : Int32) (hx : HP), Iv P hx → 0 ≤ l1.toInt → l1.toInt ≤ 39 → 1 ≤ l2.toInt → l2.toInt ≤ 13 → FX KAc h hx → fin = f_X1_tieCalls2_ n 28 l1.toInt l2.toInt (st hx) → (3 * (13 - l2.toInt) + 45 * (40 - l1.toInt) + 3 : Int) < n → Go l RX1 cX1_tieCalls 3 (g_rm (d + 2) 0 0) "tieCalls" none 117 0 0 (fun _ _ => True) (fun r h' => r = none ∧ Iv P h' ∧ (st h' = f_X1_tieCalls2 (st h)) ∧ (FX KAc h h')) 0 28 [(0, .ref 57), (1, .int l1), (2, .int l2)] [] hx) := by
    intro n
    induction n with
    | zero => exact ⟨(by intros; omega), (by intros; omega)⟩
    | succ n ih =>
      refine ⟨?_, ?_⟩
      ·
        intro l1 hx hvx l1l l1u fxx kL hm
        rw [f_X1_tieCalls2_] at kL
        replace kL := if_t kL _root_.rfl
        refine go_iload_n (pc := 2) rfl dX1_tieCalls_2 ?_
        refine go_aload_n (pc := 3) rfl dX1_tieCalls_3 ?_
        refine gi_getC (pc := 4) hvx fL_X1_30 rfl (Nat.le_of_ble_eq_true rfl) rfl (by decide) dX1_tieCalls_4 (fun c1 hc1 fc1 => ?_)
        have k2 := bd_e kL (st_c fc1)
        refine gi_get (pc := 7) (lo := 0) (hi := 40) hvx fL_X1_62 (by rcases hc1 with rfl | rfl <;> rfl) (Nat.le_of_ble_eq_true rfl) rfl (by rcases hc1 with rfl | rfl <;> rfl) dX1_tieCalls_7 (fun v3 v3l v3u v3w => ?_)
        have k4 := bd_e k2 (congrArg Int32.toInt v3w.symm)
        refine gf_icmp_ge (pc := 10) (tgt := 57) (ti_rfl l1) (ti_rfl v3) (by decide) dX1_tieCalls_10 (fun q5 => ?_) (fun q5 => ?_)
        ·
          have k6 := if_t k4 q5
          exact gi_vret (pc := 57) ⟨rfl, hvx, (k6.symm.trans kf), fxx⟩ hvx dX1_tieCalls_57
        ·
          have k7 := if_f k4 (Int.not_le.mpr q5)
          refine go_aload_n (pc := 13) rfl dX1_tieCalls_13 ?_
          refine gi_getC (pc := 14) hvx fL_X1_30 rfl (Nat.le_of_ble_eq_true rfl) rfl (by decide) dX1_tieCalls_14 (fun c8 hc8 fc8 => ?_)
          have k9 := bd_e k7 (st_c fc8)
          refine gi_getF (pc := 17) (q := c8 + 2) hvx fL_X1_100 (by rcases hc8 with rfl | rfl <;> rfl) (Nat.le_of_ble_eq_true rfl) rfl (by rcases hc8 with rfl | rfl <;> exact hvx.rf (by decide)) dX1_tieCalls_17 ?_
          refine go_iload_n (pc := 20) rfl dX1_tieCalls_20 ?_
          refine gi_iald (pc := 21) (lo := 0) (hi := 5) (len := 40) hvx (ti_rfl l1) (by rcases hc8 with rfl | rfl <;> rfl) (by omega) (by omega) (fun _ => by rcases hc8 with rfl | rfl <;> rfl) dX1_tieCalls_21 (fun v10 v10l v10u v10w => ?_)
          have k11 := bd_e k9 (congrArg Int32.toInt v10w.symm)
          refine go_iconst (pc := 22) (v := 1) (by decide) dX1_tieCalls_22 ?_
          refine gf_icmp_ne (pc := 23) (tgt := 51) (ti_rfl v10) (ti_c (v := 1) (a := 1) (by decide)) (by decide) dX1_tieCalls_23 (fun q12 => ?_) (fun q12 => ?_)
          ·
            have k13 := if_t k11 q12
            refine gf_iinc (pc := 51) (Nat.le_of_ble_eq_true rfl) rfl (ti_rfl l1) (ti_c (by decide)) (by omega) (by omega) dX1_tieCalls_51 (fun v14 e15 => ?_)
            refine go_lv (lv2 := [(0, .ref 57), (1, .int v14)]) rfl ?_
            refine go_goto (pc := 54) (tgt := 2) (by decide) dX1_tieCalls_54 ?_
            have z16 : (v14 : Int32).toInt = (l1.toInt + 1) := e15
            exact go_lv rfl (ih.1 v14 hx hvx (by omega) (by omega) fxx (by rw [show (v14 : Int32).toInt = (l1.toInt + 1) from e15]; exact k13) (by omega))
          ·
            have k17 := if_f k11 (fun z => z q12)
            refine go_iconst (pc := 26) (v := 1) (by decide) dX1_tieCalls_26 ?_
            refine go_istore_n (pc := 27) (Nat.le_of_ble_eq_true rfl) dX1_tieCalls_27 (go_lv (lv2 := [(0, .ref 57), (1, .int l1), (2, .int 1)]) rfl ?_)
            have z18 : (1 : Int32).toInt = 1 := (ti_c (v := 1) (a := 1) (by decide))
            exact go_lv rfl (ih.2 l1 1 hx hvx (by omega) (by omega) (by omega) (by omega) fxx (by rw [show (1 : Int32).toInt = 1 from (ti_c (v := 1) (a := 1) (by decide))]; exact k17) (by omega))
      ·
        intro l1 l2 hx hvx l1l l1u l2l l2u fxx kL hm
        rw [f_X1_tieCalls2_] at kL
        replace kL := if_f kL (by decide)
        refine go_iload_n (pc := 28) rfl dX1_tieCalls_28 ?_
        refine go_bipush (pc := 29) (v := 13) (by decide) dX1_tieCalls_29 ?_
        refine gf_icmp_ge (pc := 31) (tgt := 51) (ti_rfl l2) (ti_c (v := 13) (a := 13) (by decide)) (by decide) dX1_tieCalls_31 (fun q19 => ?_) (fun q19 => ?_)
        ·
          have k20 := if_t kL q19
          refine gf_iinc (pc := 51) (Nat.le_of_ble_eq_true rfl) rfl (ti_rfl l1) (ti_c (by decide)) (by omega) (by omega) dX1_tieCalls_51 (fun v21 e22 => ?_)
          refine go_lv (lv2 := [(0, .ref 57), (1, .int v21), (2, .int l2)]) rfl ?_
          refine go_goto (pc := 54) (tgt := 2) (by decide) dX1_tieCalls_54 ?_
          have z23 : (v21 : Int32).toInt = (l1.toInt + 1) := e22
          exact go_lv rfl (ih.1 v21 hx hvx (by omega) (by omega) fxx (by rw [show (v21 : Int32).toInt = (l1.toInt + 1) from e22]; exact k20) (by omega))
        ·
          have k24 := if_f kL (Int.not_le.mpr q19)
          refine go_aload_n (pc := 34) rfl dX1_tieCalls_34 ?_
          refine go_iload_n (pc := 35) rfl dX1_tieCalls_35 ?_
          refine go_iload_n (pc := 36) rfl dX1_tieCalls_36 ?_
          refine go_iconst (pc := 37) (v := 0) (by decide) dX1_tieCalls_37 ?_
          refine go_iload_n (pc := 38) rfl dX1_tieCalls_38 ?_
          refine go_invS (pc := 39) (sl := 0) (s_X7_bit_f l (d + 0) hvx l1) mL_X1_79 iM_X7_bit rfl rfl (Nat.le_of_ble_eq_true rfl) (show d + 0 + 1 + 1 ≤ d + 2 by omega) (show 8 + (1 + 11) + 40 * (d + 0 + 1) ≤ 40 * (d + 2) by omega) (g_c0 hvx.ln) (Nat.le_of_ble_eq_true rfl) dX1_tieCalls_39 ?_
          intro r h25 hq _
          obtain ⟨v27, rfl, rfl, f26⟩ := hq
          have k28 := bd_e k24 f26.symm
          refine go_invV (pc := 42) (sl := 0) (s_X1_tie2_f l (d + 0) hvx l1 (by rw [show (l1 : Int32).toInt = l1.toInt from (ti_rfl l1)]; omega) (by rw [show (l1 : Int32).toInt = l1.toInt from (ti_rfl l1)]; omega) l2 (by rw [show (l2 : Int32).toInt = l2.toInt from (ti_rfl l2)]; omega) (by rw [show (l2 : Int32).toInt = l2.toInt from (ti_rfl l2)]; omega) 0 (by rw [show (0 : Int32).toInt = 0 from (ti_c (v := 0) (a := 0) (by decide))]; omega) (by rw [show (0 : Int32).toInt = 0 from (ti_c (v := 0) (a := 0) (by decide))]; omega) v27) mL_X1_103 iM_X1_tie sM_X1_tie (hvx.sh rfl) rfl rfl rfl (Nat.le_of_ble_eq_true rfl) (show d + 0 + 1 + 1 ≤ d + 2 by omega) (show 8 + (6 + 11) + 40 * (d + 0 + 1) ≤ 40 * (d + 2) by omega) (g_c0 hvx.ln) (Nat.le_of_ble_eq_true rfl) dX1_tieCalls_42 ?_
          intro r h29 hq _
          obtain ⟨rfl, hv29, f30, f31⟩ := hq
          try rw [show (0 : Int32).toInt = 0 from (ti_c (v := 0) (a := 0) (by decide))] at f30
          try rw [show (0 : Int32).toInt = 0 from (ti_c (v := 0) (a := 0) (by decide))] at f31
          have fx29 : FX KAc h h29 := FX.tr fxx f31
          have k32 := bd_e k28 f30.symm
          refine gf_iinc (pc := 45) (Nat.le_of_ble_eq_true rfl) rfl (ti_rfl l2) (ti_c (by decide)) (by omega) (by omega) dX1_tieCalls_45 (fun v33 e34 => ?_)
          refine go_lv (lv2 := [(0, .ref 57), (1, .int l1), (2, .int v33)]) rfl ?_
          refine go_goto (pc := 48) (tgt := 28) (by decide) dX1_tieCalls_48 ?_
          have z35 : (v33 : Int32).toInt = (l2.toInt + 1) := e34
          exact go_lv rfl (ih.2 l1 v33 h29 hv29 (by omega) (by omega) (by omega) (by omega) fx29 (by rw [show (v33 : Int32).toInt = (l2.toInt + 1) from e34]; exact k32) (by omega))
  refine go_iconst (pc := 0) (v := 0) (by decide) dX1_tieCalls_0 ?_
  refine go_istore_n (pc := 1) (Nat.le_of_ble_eq_true rfl) dX1_tieCalls_1 (go_lv (lv2 := [(0, .ref 57), (1, .int 0)]) rfl ?_)
  have z36 : (0 : Int32).toInt = 0 := (ti_c (v := 0) (a := 0) (by decide))
  exact go_lv rfl ((key 1903).1 0 h hv (by omega) (by omega) fx (by rw [show (0 : Int32).toInt = 0 from (ti_c (v := 0) (a := 0) (by decide))]; exact k0) (by omega))
noncomputable def f_X1_build2_ : Nat → Nat → Int → ST → ST
  | 0, _, _, sx => sx
  | n + 1, _, l2, sx => if 10 ≤ l2 then (bd (f_X1_tieEnds2 sx) fun s3 => bd (f_X1_tieCalls2 s3) fun s7 => s7) else (bd (f_X1_findTellers2 sx l2) fun s12 => bd (f_X1_tieByValue2 s12 l2) fun s16 => f_X1_build2_ n 35 ((l2 + 1)) s16)
noncomputable def f_X1_build2 (s : ST) (c2 : Nat) : ST :=
  bd (sR s 57 6 c2) fun s23 => bd (f_J7_fill_d0a16_at582 s23 (0 : Int64)) fun s25 => bd (f_J7_fill_d0a16_at592 s25 (0 : Int64)) fun s29 => bd (f_J7_fill_d0a16_at602 s29 (0 : Int64)) fun s33 => bd (f_X1_tieByWay2 s33) fun s37 => f_X1_build2_ 49 35 0 s37
set_option maxHeartbeats 4000000 in
set_option maxRecDepth 100000 in
theorem s_X1_build2_f (l : Launch) (d : Nat) {P : PP} {h : HP} (hv : Iv P h) (c2 : Nat) (hc2 : c2 = 2 ∨ c2 = 18) : Mt l yX1_build cX1_build 3 none (d + 5) [.ref 57, .ref c2] h 0 0 (fun r h' => r = none ∧ Iv P h' ∧ (st h' = f_X1_build2 (st h) c2) ∧ (FX KAc h h')) := by
  refine Mt_iv hv (by decide) (Nat.le_of_ble_eq_true rfl) ?_
  show Go l RX1 cX1_build 3 (g_rm (d + 5) 0 0) "build" none 117 0 0 (fun _ _ => True) (fun r h' => r = none ∧ Iv P h' ∧ (st h' = f_X1_build2 (st h) c2) ∧ (FX KAc h h')) 0 0 [(0, .ref 57), (1, .ref c2)] [] h
  have fx : FX KAc h h := FX.rfl
  obtain ⟨fin, kf⟩ : ∃ z, z = f_X1_build2 (st h) c2 := ⟨_, _root_.rfl⟩
  have k0 := kf
  unfold f_X1_build2 at k0
  have key : ∀ n : Nat, (∀ (l2 : Int32) (hx : HP), Iv P hx → 0 ≤ l2.toInt → l2.toInt ≤ 10 → FX KAc h hx → fin = f_X1_build2_ n 35 l2.toInt (st hx) → (3 * (10 - l2.toInt) + 2 : Int) < n → Go l RX1 cX1_build 3 (g_rm (d + 5) 0 0) "build" none 117 0 0 (fun _ _ => True) (fun r h' => r = none ∧ Iv P h' ∧ (st h' = f_X1_build2 (st h) c2) ∧ (FX KAc h h')) 0 35 [(0, .ref 57), (2, .int l2)] [] hx) := by
    intro n
    induction n with
    | zero => exact (by intros; omega)
    | succ n ih =>
      refine ?_
      ·
        intro l2 hx hvx l2l l2u fxx kL hm
        rw [f_X1_build2_] at kL
        refine go_iload_n (pc := 35) rfl dX1_build_35 ?_
        refine go_bipush (pc := 36) (v := 10) (by decide) dX1_build_36 ?_
        refine gf_icmp_ge (pc := 38) (tgt := 57) (ti_rfl l2) (ti_c (v := 10) (a := 10) (by decide)) (by decide) dX1_build_38 (fun q1 => ?_) (fun q1 => ?_)
        ·
          have k2 := if_t kL q1
          refine go_aload_n (pc := 57) rfl dX1_build_57 ?_
          refine go_invV (pc := 58) (sl := 0) (s_X1_tieEnds2_f l (d + 1) hvx ) mL_X1_50 iM_X1_tieEnds sM_X1_tieEnds (hvx.sh rfl) rfl rfl rfl (Nat.le_of_ble_eq_true rfl) (show d + 1 + 3 + 1 ≤ d + 5 by omega) (show 8 + (4 + 11) + 40 * (d + 1 + 3) ≤ 40 * (d + 5) by omega) (g_c0 hvx.ln) (Nat.le_of_ble_eq_true rfl) dX1_build_58 ?_
          intro r h3 hq _
          obtain ⟨rfl, hv3, f4, f5⟩ := hq
          have fx3 : FX KAc h h3 := FX.tr fxx f5
          have k6 := bd_e k2 f4.symm
          refine go_aload_n (pc := 61) rfl dX1_build_61 ?_
          refine go_invV (pc := 62) (sl := 0) (s_X1_tieCalls2_f l (d + 2) hv3 ) mL_X1_53 iM_X1_tieCalls sM_X1_tieCalls (hv3.sh rfl) rfl rfl rfl (Nat.le_of_ble_eq_true rfl) (show d + 2 + 2 + 1 ≤ d + 5 by omega) (show 8 + (3 + 11) + 40 * (d + 2 + 2) ≤ 40 * (d + 5) by omega) (g_c0 hv3.ln) (Nat.le_of_ble_eq_true rfl) dX1_build_62 ?_
          intro r h7 hq _
          obtain ⟨rfl, hv7, f8, f9⟩ := hq
          have fx7 : FX KAc h h7 := FX.tr fx3 f9
          have k10 := bd_e k6 f8.symm
          exact gi_vret (pc := 65) ⟨rfl, hv7, (k10.symm.trans kf), fx7⟩ hv7 dX1_build_65
        ·
          have k11 := if_f kL (Int.not_le.mpr q1)
          refine go_aload_n (pc := 41) rfl dX1_build_41 ?_
          refine go_iload_n (pc := 42) rfl dX1_build_42 ?_
          refine go_invV (pc := 43) (sl := 0) (s_X1_findTellers2_f l (d + 0) hvx l2 (by rw [show (l2 : Int32).toInt = l2.toInt from (ti_rfl l2)]; omega) (by rw [show (l2 : Int32).toInt = l2.toInt from (ti_rfl l2)]; omega)) mL_X1_43 iM_X1_findTellers sM_X1_findTellers (hvx.sh rfl) rfl rfl rfl (Nat.le_of_ble_eq_true rfl) (show d + 0 + 4 + 1 ≤ d + 5 by omega) (show 8 + (5 + 11) + 40 * (d + 0 + 4) ≤ 40 * (d + 5) by omega) (g_c0 hvx.ln) (Nat.le_of_ble_eq_true rfl) dX1_build_43 ?_
          intro r h12 hq _
          obtain ⟨rfl, hv12, f13, f14⟩ := hq
          have fx12 : FX KAc h h12 := FX.tr fxx f14
          have k15 := bd_e k11 f13.symm
          refine go_aload_n (pc := 46) rfl dX1_build_46 ?_
          refine go_iload_n (pc := 47) rfl dX1_build_47 ?_
          refine go_invV (pc := 48) (sl := 0) (s_X1_tieByValue2_f l (d + 1) hv12 l2 (by rw [show (l2 : Int32).toInt = l2.toInt from (ti_rfl l2)]; omega) (by rw [show (l2 : Int32).toInt = l2.toInt from (ti_rfl l2)]; omega)) mL_X1_47 iM_X1_tieByValue sM_X1_tieByValue (hv12.sh rfl) rfl rfl rfl (Nat.le_of_ble_eq_true rfl) (show d + 1 + 3 + 1 ≤ d + 5 by omega) (show 8 + (4 + 11) + 40 * (d + 1 + 3) ≤ 40 * (d + 5) by omega) (g_c0 hv12.ln) (Nat.le_of_ble_eq_true rfl) dX1_build_48 ?_
          intro r h16 hq _
          obtain ⟨rfl, hv16, f17, f18⟩ := hq
          have fx16 : FX KAc h h16 := FX.tr fx12 f18
          have k19 := bd_e k15 f17.symm
          refine gf_iinc (pc := 51) (Nat.le_of_ble_eq_true rfl) rfl (ti_rfl l2) (ti_c (by decide)) (by omega) (by omega) dX1_build_51 (fun v20 e21 => ?_)
          refine go_lv (lv2 := [(0, .ref 57), (2, .int v20)]) rfl ?_
          refine go_goto (pc := 54) (tgt := 35) (by decide) dX1_build_54 ?_
          have z22 : (v20 : Int32).toInt = (l2.toInt + 1) := e21
          exact go_lv rfl (ih v20 h16 hv16 (by omega) (by omega) fx16 (by rw [show (v20 : Int32).toInt = (l2.toInt + 1) from e21]; exact k19) (by omega))
  refine go_aload_n (pc := 0) rfl dX1_build_0 ?_
  refine go_aload_n (pc := 1) rfl dX1_build_1 ?_
  refine gi_putC (pc := 2) hv hc2 (fP_X1_30 _) rfl (Nat.le_of_ble_eq_true rfl) rfl (fun _ => rfl) (fun _ => rfl) (by decide) (by decide) (by decide) (by decide) dX1_build_2 (fun h23 hv23 hv23e => ?_)
  have fx23 : FX KAc h h23 := FX.pR fx hv23e (by unfold KAc; omega)
  have k24 := bd_e k0 (st_R hv23e)
  refine go_aload_n (pc := 5) rfl dX1_build_5 ?_
  refine gi_getF (pc := 6) (q := 58) hv23 fL_X1_9 rfl (Nat.le_of_ble_eq_true rfl) rfl (hv23.rf (by decide)) dX1_build_6 ?_
  refine go_lconst (pc := 9) (v := 0) (by decide) dX1_build_9 ?_
  refine go_invS (pc := 10) (sl := 0) (s_J7_fill_d0a16_at582_f l (d + 3) hv23 (0 : Int64)) mL_X1_34 iM_J7_fill_d0a16 rfl rfl (Nat.le_of_ble_eq_true rfl) (show d + 3 + 1 + 1 ≤ d + 5 by omega) (show 8 + (5 + 11) + 40 * (d + 3 + 1) ≤ 40 * (d + 5) by omega) (g_c0 hv23.ln) (Nat.le_of_ble_eq_true rfl) dX1_build_10 ?_
  intro r h25 hq _
  obtain ⟨rfl, hv25, f26, f27⟩ := hq
  have fx25 : FX KAc h h25 := FX.tr fx23 f27
  have k28 := bd_e k24 f26.symm
  refine go_aload_n (pc := 13) rfl dX1_build_13 ?_
  refine gi_getF (pc := 14) (q := 59) hv25 fL_X1_15 rfl (Nat.le_of_ble_eq_true rfl) rfl (hv25.rf (by decide)) dX1_build_14 ?_
  refine go_lconst (pc := 17) (v := 0) (by decide) dX1_build_17 ?_
  refine go_invS (pc := 18) (sl := 0) (s_J7_fill_d0a16_at592_f l (d + 3) hv25 (0 : Int64)) mL_X1_34 iM_J7_fill_d0a16 rfl rfl (Nat.le_of_ble_eq_true rfl) (show d + 3 + 1 + 1 ≤ d + 5 by omega) (show 8 + (5 + 11) + 40 * (d + 3 + 1) ≤ 40 * (d + 5) by omega) (g_c0 hv25.ln) (Nat.le_of_ble_eq_true rfl) dX1_build_18 ?_
  intro r h29 hq _
  obtain ⟨rfl, hv29, f30, f31⟩ := hq
  have fx29 : FX KAc h h29 := FX.tr fx25 f31
  have k32 := bd_e k28 f30.symm
  refine go_aload_n (pc := 21) rfl dX1_build_21 ?_
  refine gi_getF (pc := 22) (q := 60) hv29 fL_X1_18 rfl (Nat.le_of_ble_eq_true rfl) rfl (hv29.rf (by decide)) dX1_build_22 ?_
  refine go_lconst (pc := 25) (v := 0) (by decide) dX1_build_25 ?_
  refine go_invS (pc := 26) (sl := 0) (s_J7_fill_d0a16_at602_f l (d + 3) hv29 (0 : Int64)) mL_X1_34 iM_J7_fill_d0a16 rfl rfl (Nat.le_of_ble_eq_true rfl) (show d + 3 + 1 + 1 ≤ d + 5 by omega) (show 8 + (5 + 11) + 40 * (d + 3 + 1) ≤ 40 * (d + 5) by omega) (g_c0 hv29.ln) (Nat.le_of_ble_eq_true rfl) dX1_build_26 ?_
  intro r h33 hq _
  obtain ⟨rfl, hv33, f34, f35⟩ := hq
  have fx33 : FX KAc h h33 := FX.tr fx29 f35
  have k36 := bd_e k32 f34.symm
  refine go_aload_n (pc := 29) rfl dX1_build_29 ?_
  refine go_invV (pc := 30) (sl := 0) (s_X1_tieByWay2_f l (d + 0) hv33 ) mL_X1_40 iM_X1_tieByWay sM_X1_tieByWay (hv33.sh rfl) rfl rfl rfl (Nat.le_of_ble_eq_true rfl) (show d + 0 + 4 + 1 ≤ d + 5 by omega) (show 8 + (2 + 11) + 40 * (d + 0 + 4) ≤ 40 * (d + 5) by omega) (g_c0 hv33.ln) (Nat.le_of_ble_eq_true rfl) dX1_build_30 ?_
  intro r h37 hq _
  obtain ⟨rfl, hv37, f38, f39⟩ := hq
  have fx37 : FX KAc h h37 := FX.tr fx33 f39
  have k40 := bd_e k36 f38.symm
  refine go_iconst (pc := 33) (v := 0) (by decide) dX1_build_33 ?_
  refine go_istore_n (pc := 34) (Nat.le_of_ble_eq_true rfl) dX1_build_34 (go_lv (lv2 := [(0, .ref 57), (1, .ref c2), (2, .int 0)]) rfl ?_)
  have z41 : (0 : Int32).toInt = 0 := (ti_c (v := 0) (a := 0) (by decide))
  exact go_lv rfl ((key 49) 0 h37 hv37 (by omega) (by omega) fx37 (by rw [show (0 : Int32).toInt = 0 from (ti_c (v := 0) (a := 0) (by decide))]; exact k40) (by omega))

