
set_option maxHeartbeats 4000000 in
set_option maxRecDepth 100000 in
theorem s_J7_fill_d0a16_at52_f (l : Launch) (d : Nat) {P : PP} {h : HP} (hv : Iv P h) (a2 : Int64) : Mt l yJ7_fill_d0a16 cJ7_fill_d0a16 5 none (d + 1) [.ref 52, .long a2] h 0 0 (fun r h' => r = none ∧ Iv P h' ∧ (FX KAc h h')) := by
  refine Mt_iv hv (by decide) (Nat.le_of_ble_eq_true rfl) ?_
  show Go l RJ7 cJ7_fill_d0a16 5 (g_rm (d + 1) 0 0) "fill" none 117 0 0 (fun _ _ => True) (fun r h' => r = none ∧ Iv P h' ∧ (FX KAc h h')) 0 0 [(0, .ref 52), (1, .long a2)] [] h
  have fx : FX KAc h h := FX.rfl
  have key : ∀ n : Nat, (∀ (l1 : Int64) (l3 : Int32) (l4 : Int32) (hx : HP), Iv P hx → 0 ≤ l3.toInt → l3.toInt ≤ 13 → 13 ≤ l4.toInt → l4.toInt ≤ 13 → FX KAc h hx → (3 * (13 - l3.toInt) + 2 : Int) < n → Go l RJ7 cJ7_fill_d0a16 5 (g_rm (d + 1) 0 0) "fill" none 117 0 0 (fun _ _ => True) (fun r h' => r = none ∧ Iv P h' ∧ (FX KAc h h')) 0 6 [(0, .ref 52), (1, .long l1), (3, .int l3), (4, .int l4)] [] hx) := by
    intro n
    induction n with
    | zero => exact (by intros; omega)
    | succ n ih =>
      refine ?_
      ·
        intro l1 l3 l4 hx hvx l3l l3u l4l l4u fxx hm
        refine go_iload_n (pc := 6) rfl dJ7_fill_d0a16_6 ?_
        refine go_iload (pc := 7) rfl dJ7_fill_d0a16_7 ?_
        refine gf_icmp_ge (pc := 9) (tgt := 22) (ti_rfl l3) (ti_rfl l4) (by decide) dJ7_fill_d0a16_9 (fun q1 => ?_) (fun q1 => ?_)
        ·
          exact gi_vret (pc := 22) ⟨rfl, hvx, fxx⟩ hvx dJ7_fill_d0a16_22
        ·
          refine go_aload_n (pc := 12) rfl dJ7_fill_d0a16_12 ?_
          refine go_iload_n (pc := 13) rfl dJ7_fill_d0a16_13 ?_
          refine go_lload_n (pc := 14) rfl dJ7_fill_d0a16_14 ?_
          refine gi_last (pc := 15) (len := 13) hvx (ti_rfl l3) rfl (by omega) (by omega) dJ7_fill_d0a16_15 (fun h2 hv2 hv2e => ?_)
          have fx2 : FX KAc h h2 := FX.pL fxx hv2e (by unfold KAc; omega)
          refine gf_iinc (pc := 16) (Nat.le_of_ble_eq_true rfl) rfl (ti_rfl l3) (ti_c (by decide)) (by omega) (by omega) dJ7_fill_d0a16_16 (fun v3 e4 => ?_)
          refine go_lv (lv2 := [(0, .ref 52), (1, .long l1), (3, .int v3), (4, .int l4)]) rfl ?_
          refine go_goto (pc := 19) (tgt := 6) (by decide) dJ7_fill_d0a16_19 ?_
          have z5 : (v3 : Int32).toInt = (l3.toInt + 1) := e4
          exact go_lv rfl (ih l1 v3 l4 h2 hv2 (by omega) (by omega) (by omega) (by omega) fx2 (by omega))
  refine go_iconst (pc := 0) (v := 0) (by decide) dJ7_fill_d0a16_0 ?_
  refine go_istore_n (pc := 1) (Nat.le_of_ble_eq_true rfl) dJ7_fill_d0a16_1 (go_lv (lv2 := [(0, .ref 52), (1, .long a2), (3, .int 0)]) rfl ?_)
  refine go_aload_n (pc := 2) rfl dJ7_fill_d0a16_2 ?_
  refine go_alen (pc := 3) (v := 13) (hv.sh rfl) (by decide) (by decide) dJ7_fill_d0a16_3 ?_
  refine go_istore (pc := 4) (Nat.le_of_ble_eq_true rfl) dJ7_fill_d0a16_4 (go_lv (lv2 := [(0, .ref 52), (1, .long a2), (3, .int 0), (4, .int 13)]) rfl ?_)
  have z6 : (0 : Int32).toInt = 0 := (ti_c (v := 0) (a := 0) (by decide))
  have z7 : (13 : Int32).toInt = 13 := (ti_c (v := 13) (a := 13) (by decide))
  exact go_lv rfl ((key 58) a2 0 13 h hv (by omega) (by omega) (by omega) (by omega) fx (by omega))
set_option maxHeartbeats 4000000 in
set_option maxRecDepth 100000 in
theorem s_J7_fill_d0a16_at53_f (l : Launch) (d : Nat) {P : PP} {h : HP} (hv : Iv P h) (a2 : Int64) : Mt l yJ7_fill_d0a16 cJ7_fill_d0a16 5 none (d + 1) [.ref 53, .long a2] h 0 0 (fun r h' => r = none ∧ Iv P h' ∧ (FX KAc h h')) := by
  refine Mt_iv hv (by decide) (Nat.le_of_ble_eq_true rfl) ?_
  show Go l RJ7 cJ7_fill_d0a16 5 (g_rm (d + 1) 0 0) "fill" none 117 0 0 (fun _ _ => True) (fun r h' => r = none ∧ Iv P h' ∧ (FX KAc h h')) 0 0 [(0, .ref 53), (1, .long a2)] [] h
  have fx : FX KAc h h := FX.rfl
  have key : ∀ n : Nat, (∀ (l1 : Int64) (l3 : Int32) (l4 : Int32) (hx : HP), Iv P hx → 0 ≤ l3.toInt → l3.toInt ≤ 13 → 13 ≤ l4.toInt → l4.toInt ≤ 13 → FX KAc h hx → (3 * (13 - l3.toInt) + 2 : Int) < n → Go l RJ7 cJ7_fill_d0a16 5 (g_rm (d + 1) 0 0) "fill" none 117 0 0 (fun _ _ => True) (fun r h' => r = none ∧ Iv P h' ∧ (FX KAc h h')) 0 6 [(0, .ref 53), (1, .long l1), (3, .int l3), (4, .int l4)] [] hx) := by
    intro n
    induction n with
    | zero => exact (by intros; omega)
    | succ n ih =>
      refine ?_
      ·
        intro l1 l3 l4 hx hvx l3l l3u l4l l4u fxx hm
        refine go_iload_n (pc := 6) rfl dJ7_fill_d0a16_6 ?_
        refine go_iload (pc := 7) rfl dJ7_fill_d0a16_7 ?_
        refine gf_icmp_ge (pc := 9) (tgt := 22) (ti_rfl l3) (ti_rfl l4) (by decide) dJ7_fill_d0a16_9 (fun q1 => ?_) (fun q1 => ?_)
        ·
          exact gi_vret (pc := 22) ⟨rfl, hvx, fxx⟩ hvx dJ7_fill_d0a16_22
        ·
          refine go_aload_n (pc := 12) rfl dJ7_fill_d0a16_12 ?_
          refine go_iload_n (pc := 13) rfl dJ7_fill_d0a16_13 ?_
          refine go_lload_n (pc := 14) rfl dJ7_fill_d0a16_14 ?_
          refine gi_last (pc := 15) (len := 13) hvx (ti_rfl l3) rfl (by omega) (by omega) dJ7_fill_d0a16_15 (fun h2 hv2 hv2e => ?_)
          have fx2 : FX KAc h h2 := FX.pL fxx hv2e (by unfold KAc; omega)
          refine gf_iinc (pc := 16) (Nat.le_of_ble_eq_true rfl) rfl (ti_rfl l3) (ti_c (by decide)) (by omega) (by omega) dJ7_fill_d0a16_16 (fun v3 e4 => ?_)
          refine go_lv (lv2 := [(0, .ref 53), (1, .long l1), (3, .int v3), (4, .int l4)]) rfl ?_
          refine go_goto (pc := 19) (tgt := 6) (by decide) dJ7_fill_d0a16_19 ?_
          have z5 : (v3 : Int32).toInt = (l3.toInt + 1) := e4
          exact go_lv rfl (ih l1 v3 l4 h2 hv2 (by omega) (by omega) (by omega) (by omega) fx2 (by omega))
  refine go_iconst (pc := 0) (v := 0) (by decide) dJ7_fill_d0a16_0 ?_
  refine go_istore_n (pc := 1) (Nat.le_of_ble_eq_true rfl) dJ7_fill_d0a16_1 (go_lv (lv2 := [(0, .ref 53), (1, .long a2), (3, .int 0)]) rfl ?_)
  refine go_aload_n (pc := 2) rfl dJ7_fill_d0a16_2 ?_
  refine go_alen (pc := 3) (v := 13) (hv.sh rfl) (by decide) (by decide) dJ7_fill_d0a16_3 ?_
  refine go_istore (pc := 4) (Nat.le_of_ble_eq_true rfl) dJ7_fill_d0a16_4 (go_lv (lv2 := [(0, .ref 53), (1, .long a2), (3, .int 0), (4, .int 13)]) rfl ?_)
  have z6 : (0 : Int32).toInt = 0 := (ti_c (v := 0) (a := 0) (by decide))
  have z7 : (13 : Int32).toInt = 13 := (ti_c (v := 13) (a := 13) (by decide))
  exact go_lv rfl ((key 58) a2 0 13 h hv (by omega) (by omega) (by omega) (by omega) fx (by omega))
set_option maxHeartbeats 4000000 in
set_option maxRecDepth 100000 in
theorem s_J7_fill_d0a16_at58_f (l : Launch) (d : Nat) {P : PP} {h : HP} (hv : Iv P h) (a2 : Int64) : Mt l yJ7_fill_d0a16 cJ7_fill_d0a16 5 none (d + 1) [.ref 58, .long a2] h 0 0 (fun r h' => r = none ∧ Iv P h' ∧ (FX KAc h h')) := by
  refine Mt_iv hv (by decide) (Nat.le_of_ble_eq_true rfl) ?_
  show Go l RJ7 cJ7_fill_d0a16 5 (g_rm (d + 1) 0 0) "fill" none 117 0 0 (fun _ _ => True) (fun r h' => r = none ∧ Iv P h' ∧ (FX KAc h h')) 0 0 [(0, .ref 58), (1, .long a2)] [] h
  have fx : FX KAc h h := FX.rfl
  have key : ∀ n : Nat, (∀ (l1 : Int64) (l3 : Int32) (l4 : Int32) (hx : HP), Iv P hx → 0 ≤ l3.toInt → l3.toInt ≤ 7605 → 7605 ≤ l4.toInt → l4.toInt ≤ 7605 → FX KAc h hx → (3 * (7605 - l3.toInt) + 2 : Int) < n → Go l RJ7 cJ7_fill_d0a16 5 (g_rm (d + 1) 0 0) "fill" none 117 0 0 (fun _ _ => True) (fun r h' => r = none ∧ Iv P h' ∧ (FX KAc h h')) 0 6 [(0, .ref 58), (1, .long l1), (3, .int l3), (4, .int l4)] [] hx) := by
    intro n
    induction n with
    | zero => exact (by intros; omega)
    | succ n ih =>
      refine ?_
      ·
        intro l1 l3 l4 hx hvx l3l l3u l4l l4u fxx hm
        refine go_iload_n (pc := 6) rfl dJ7_fill_d0a16_6 ?_
        refine go_iload (pc := 7) rfl dJ7_fill_d0a16_7 ?_
        refine gf_icmp_ge (pc := 9) (tgt := 22) (ti_rfl l3) (ti_rfl l4) (by decide) dJ7_fill_d0a16_9 (fun q1 => ?_) (fun q1 => ?_)
        ·
          exact gi_vret (pc := 22) ⟨rfl, hvx, fxx⟩ hvx dJ7_fill_d0a16_22
        ·
          refine go_aload_n (pc := 12) rfl dJ7_fill_d0a16_12 ?_
          refine go_iload_n (pc := 13) rfl dJ7_fill_d0a16_13 ?_
          refine go_lload_n (pc := 14) rfl dJ7_fill_d0a16_14 ?_
          refine gi_last (pc := 15) (len := 7605) hvx (ti_rfl l3) rfl (by omega) (by omega) dJ7_fill_d0a16_15 (fun h2 hv2 hv2e => ?_)
          have fx2 : FX KAc h h2 := FX.pL fxx hv2e (by unfold KAc; omega)
          refine gf_iinc (pc := 16) (Nat.le_of_ble_eq_true rfl) rfl (ti_rfl l3) (ti_c (by decide)) (by omega) (by omega) dJ7_fill_d0a16_16 (fun v3 e4 => ?_)
          refine go_lv (lv2 := [(0, .ref 58), (1, .long l1), (3, .int v3), (4, .int l4)]) rfl ?_
          refine go_goto (pc := 19) (tgt := 6) (by decide) dJ7_fill_d0a16_19 ?_
          have z5 : (v3 : Int32).toInt = (l3.toInt + 1) := e4
          exact go_lv rfl (ih l1 v3 l4 h2 hv2 (by omega) (by omega) (by omega) (by omega) fx2 (by omega))
  refine go_iconst (pc := 0) (v := 0) (by decide) dJ7_fill_d0a16_0 ?_
  refine go_istore_n (pc := 1) (Nat.le_of_ble_eq_true rfl) dJ7_fill_d0a16_1 (go_lv (lv2 := [(0, .ref 58), (1, .long a2), (3, .int 0)]) rfl ?_)
  refine go_aload_n (pc := 2) rfl dJ7_fill_d0a16_2 ?_
  refine go_alen (pc := 3) (v := 7605) (hv.sh rfl) (by decide) (by decide) dJ7_fill_d0a16_3 ?_
  refine go_istore (pc := 4) (Nat.le_of_ble_eq_true rfl) dJ7_fill_d0a16_4 (go_lv (lv2 := [(0, .ref 58), (1, .long a2), (3, .int 0), (4, .int 7605)]) rfl ?_)
  have z6 : (0 : Int32).toInt = 0 := (ti_c (v := 0) (a := 0) (by decide))
  have z7 : (7605 : Int32).toInt = 7605 := (ti_c (v := 7605) (a := 7605) (by decide))
  exact go_lv rfl ((key 22834) a2 0 7605 h hv (by omega) (by omega) (by omega) (by omega) fx (by omega))
set_option maxHeartbeats 4000000 in
set_option maxRecDepth 100000 in
theorem s_J7_fill_d0a16_at59_f (l : Launch) (d : Nat) {P : PP} {h : HP} (hv : Iv P h) (a2 : Int64) : Mt l yJ7_fill_d0a16 cJ7_fill_d0a16 5 none (d + 1) [.ref 59, .long a2] h 0 0 (fun r h' => r = none ∧ Iv P h' ∧ (FX KAc h h')) := by
  refine Mt_iv hv (by decide) (Nat.le_of_ble_eq_true rfl) ?_
  show Go l RJ7 cJ7_fill_d0a16 5 (g_rm (d + 1) 0 0) "fill" none 117 0 0 (fun _ _ => True) (fun r h' => r = none ∧ Iv P h' ∧ (FX KAc h h')) 0 0 [(0, .ref 59), (1, .long a2)] [] h
  have fx : FX KAc h h := FX.rfl
  have key : ∀ n : Nat, (∀ (l1 : Int64) (l3 : Int32) (l4 : Int32) (hx : HP), Iv P hx → 0 ≤ l3.toInt → l3.toInt ≤ 40 → 40 ≤ l4.toInt → l4.toInt ≤ 40 → FX KAc h hx → (3 * (40 - l3.toInt) + 2 : Int) < n → Go l RJ7 cJ7_fill_d0a16 5 (g_rm (d + 1) 0 0) "fill" none 117 0 0 (fun _ _ => True) (fun r h' => r = none ∧ Iv P h' ∧ (FX KAc h h')) 0 6 [(0, .ref 59), (1, .long l1), (3, .int l3), (4, .int l4)] [] hx) := by
    intro n
    induction n with
    | zero => exact (by intros; omega)
    | succ n ih =>
      refine ?_
      ·
        intro l1 l3 l4 hx hvx l3l l3u l4l l4u fxx hm
        refine go_iload_n (pc := 6) rfl dJ7_fill_d0a16_6 ?_
        refine go_iload (pc := 7) rfl dJ7_fill_d0a16_7 ?_
        refine gf_icmp_ge (pc := 9) (tgt := 22) (ti_rfl l3) (ti_rfl l4) (by decide) dJ7_fill_d0a16_9 (fun q1 => ?_) (fun q1 => ?_)
        ·
          exact gi_vret (pc := 22) ⟨rfl, hvx, fxx⟩ hvx dJ7_fill_d0a16_22
        ·
          refine go_aload_n (pc := 12) rfl dJ7_fill_d0a16_12 ?_
          refine go_iload_n (pc := 13) rfl dJ7_fill_d0a16_13 ?_
          refine go_lload_n (pc := 14) rfl dJ7_fill_d0a16_14 ?_
          refine gi_last (pc := 15) (len := 40) hvx (ti_rfl l3) rfl (by omega) (by omega) dJ7_fill_d0a16_15 (fun h2 hv2 hv2e => ?_)
          have fx2 : FX KAc h h2 := FX.pL fxx hv2e (by unfold KAc; omega)
          refine gf_iinc (pc := 16) (Nat.le_of_ble_eq_true rfl) rfl (ti_rfl l3) (ti_c (by decide)) (by omega) (by omega) dJ7_fill_d0a16_16 (fun v3 e4 => ?_)
          refine go_lv (lv2 := [(0, .ref 59), (1, .long l1), (3, .int v3), (4, .int l4)]) rfl ?_
          refine go_goto (pc := 19) (tgt := 6) (by decide) dJ7_fill_d0a16_19 ?_
          have z5 : (v3 : Int32).toInt = (l3.toInt + 1) := e4
          exact go_lv rfl (ih l1 v3 l4 h2 hv2 (by omega) (by omega) (by omega) (by omega) fx2 (by omega))
  refine go_iconst (pc := 0) (v := 0) (by decide) dJ7_fill_d0a16_0 ?_
  refine go_istore_n (pc := 1) (Nat.le_of_ble_eq_true rfl) dJ7_fill_d0a16_1 (go_lv (lv2 := [(0, .ref 59), (1, .long a2), (3, .int 0)]) rfl ?_)
  refine go_aload_n (pc := 2) rfl dJ7_fill_d0a16_2 ?_
  refine go_alen (pc := 3) (v := 40) (hv.sh rfl) (by decide) (by decide) dJ7_fill_d0a16_3 ?_
  refine go_istore (pc := 4) (Nat.le_of_ble_eq_true rfl) dJ7_fill_d0a16_4 (go_lv (lv2 := [(0, .ref 59), (1, .long a2), (3, .int 0), (4, .int 40)]) rfl ?_)
  have z6 : (0 : Int32).toInt = 0 := (ti_c (v := 0) (a := 0) (by decide))
  have z7 : (40 : Int32).toInt = 40 := (ti_c (v := 40) (a := 40) (by decide))
  exact go_lv rfl ((key 139) a2 0 40 h hv (by omega) (by omega) (by omega) (by omega) fx (by omega))
set_option maxHeartbeats 4000000 in
set_option maxRecDepth 100000 in
theorem s_J7_fill_d0a16_at60_f (l : Launch) (d : Nat) {P : PP} {h : HP} (hv : Iv P h) (a2 : Int64) : Mt l yJ7_fill_d0a16 cJ7_fill_d0a16 5 none (d + 1) [.ref 60, .long a2] h 0 0 (fun r h' => r = none ∧ Iv P h' ∧ (FX KAc h h')) := by
  refine Mt_iv hv (by decide) (Nat.le_of_ble_eq_true rfl) ?_
  show Go l RJ7 cJ7_fill_d0a16 5 (g_rm (d + 1) 0 0) "fill" none 117 0 0 (fun _ _ => True) (fun r h' => r = none ∧ Iv P h' ∧ (FX KAc h h')) 0 0 [(0, .ref 60), (1, .long a2)] [] h
  have fx : FX KAc h h := FX.rfl
  have key : ∀ n : Nat, (∀ (l1 : Int64) (l3 : Int32) (l4 : Int32) (hx : HP), Iv P hx → 0 ≤ l3.toInt → l3.toInt ≤ 40 → 40 ≤ l4.toInt → l4.toInt ≤ 40 → FX KAc h hx → (3 * (40 - l3.toInt) + 2 : Int) < n → Go l RJ7 cJ7_fill_d0a16 5 (g_rm (d + 1) 0 0) "fill" none 117 0 0 (fun _ _ => True) (fun r h' => r = none ∧ Iv P h' ∧ (FX KAc h h')) 0 6 [(0, .ref 60), (1, .long l1), (3, .int l3), (4, .int l4)] [] hx) := by
    intro n
    induction n with
    | zero => exact (by intros; omega)
    | succ n ih =>
      refine ?_
      ·
        intro l1 l3 l4 hx hvx l3l l3u l4l l4u fxx hm
        refine go_iload_n (pc := 6) rfl dJ7_fill_d0a16_6 ?_
        refine go_iload (pc := 7) rfl dJ7_fill_d0a16_7 ?_
        refine gf_icmp_ge (pc := 9) (tgt := 22) (ti_rfl l3) (ti_rfl l4) (by decide) dJ7_fill_d0a16_9 (fun q1 => ?_) (fun q1 => ?_)
        ·
          exact gi_vret (pc := 22) ⟨rfl, hvx, fxx⟩ hvx dJ7_fill_d0a16_22
        ·
          refine go_aload_n (pc := 12) rfl dJ7_fill_d0a16_12 ?_
          refine go_iload_n (pc := 13) rfl dJ7_fill_d0a16_13 ?_
          refine go_lload_n (pc := 14) rfl dJ7_fill_d0a16_14 ?_
          refine gi_last (pc := 15) (len := 40) hvx (ti_rfl l3) rfl (by omega) (by omega) dJ7_fill_d0a16_15 (fun h2 hv2 hv2e => ?_)
          have fx2 : FX KAc h h2 := FX.pL fxx hv2e (by unfold KAc; omega)
          refine gf_iinc (pc := 16) (Nat.le_of_ble_eq_true rfl) rfl (ti_rfl l3) (ti_c (by decide)) (by omega) (by omega) dJ7_fill_d0a16_16 (fun v3 e4 => ?_)
          refine go_lv (lv2 := [(0, .ref 60), (1, .long l1), (3, .int v3), (4, .int l4)]) rfl ?_
          refine go_goto (pc := 19) (tgt := 6) (by decide) dJ7_fill_d0a16_19 ?_
          have z5 : (v3 : Int32).toInt = (l3.toInt + 1) := e4
          exact go_lv rfl (ih l1 v3 l4 h2 hv2 (by omega) (by omega) (by omega) (by omega) fx2 (by omega))
  refine go_iconst (pc := 0) (v := 0) (by decide) dJ7_fill_d0a16_0 ?_
  refine go_istore_n (pc := 1) (Nat.le_of_ble_eq_true rfl) dJ7_fill_d0a16_1 (go_lv (lv2 := [(0, .ref 60), (1, .long a2), (3, .int 0)]) rfl ?_)
  refine go_aload_n (pc := 2) rfl dJ7_fill_d0a16_2 ?_
  refine go_alen (pc := 3) (v := 40) (hv.sh rfl) (by decide) (by decide) dJ7_fill_d0a16_3 ?_
  refine go_istore (pc := 4) (Nat.le_of_ble_eq_true rfl) dJ7_fill_d0a16_4 (go_lv (lv2 := [(0, .ref 60), (1, .long a2), (3, .int 0), (4, .int 40)]) rfl ?_)
  have z6 : (0 : Int32).toInt = 0 := (ti_c (v := 0) (a := 0) (by decide))
  have z7 : (40 : Int32).toInt = 40 := (ti_c (v := 40) (a := 40) (by decide))
  exact go_lv rfl ((key 139) a2 0 40 h hv (by omega) (by omega) (by omega) (by omega) fx (by omega))
set_option maxHeartbeats 4000000 in
set_option maxRecDepth 100000 in
theorem s_J7_fill_d0a16_at62_f (l : Launch) (d : Nat) {P : PP} {h : HP} (hv : Iv P h) (a2 : Int64) : Mt l yJ7_fill_d0a16 cJ7_fill_d0a16 5 none (d + 1) [.ref 62, .long a2] h 0 0 (fun r h' => r = none ∧ Iv P h' ∧ (FX KAc h h')) := by
  refine Mt_iv hv (by decide) (Nat.le_of_ble_eq_true rfl) ?_
  show Go l RJ7 cJ7_fill_d0a16 5 (g_rm (d + 1) 0 0) "fill" none 117 0 0 (fun _ _ => True) (fun r h' => r = none ∧ Iv P h' ∧ (FX KAc h h')) 0 0 [(0, .ref 62), (1, .long a2)] [] h
  have fx : FX KAc h h := FX.rfl
  have key : ∀ n : Nat, (∀ (l1 : Int64) (l3 : Int32) (l4 : Int32) (hx : HP), Iv P hx → 0 ≤ l3.toInt → l3.toInt ≤ 45 → 45 ≤ l4.toInt → l4.toInt ≤ 45 → FX KAc h hx → (3 * (45 - l3.toInt) + 2 : Int) < n → Go l RJ7 cJ7_fill_d0a16 5 (g_rm (d + 1) 0 0) "fill" none 117 0 0 (fun _ _ => True) (fun r h' => r = none ∧ Iv P h' ∧ (FX KAc h h')) 0 6 [(0, .ref 62), (1, .long l1), (3, .int l3), (4, .int l4)] [] hx) := by
    intro n
    induction n with
    | zero => exact (by intros; omega)
    | succ n ih =>
      refine ?_
      ·
        intro l1 l3 l4 hx hvx l3l l3u l4l l4u fxx hm
        refine go_iload_n (pc := 6) rfl dJ7_fill_d0a16_6 ?_
        refine go_iload (pc := 7) rfl dJ7_fill_d0a16_7 ?_
        refine gf_icmp_ge (pc := 9) (tgt := 22) (ti_rfl l3) (ti_rfl l4) (by decide) dJ7_fill_d0a16_9 (fun q1 => ?_) (fun q1 => ?_)
        ·
          exact gi_vret (pc := 22) ⟨rfl, hvx, fxx⟩ hvx dJ7_fill_d0a16_22
        ·
          refine go_aload_n (pc := 12) rfl dJ7_fill_d0a16_12 ?_
          refine go_iload_n (pc := 13) rfl dJ7_fill_d0a16_13 ?_
          refine go_lload_n (pc := 14) rfl dJ7_fill_d0a16_14 ?_
          refine gi_last (pc := 15) (len := 45) hvx (ti_rfl l3) rfl (by omega) (by omega) dJ7_fill_d0a16_15 (fun h2 hv2 hv2e => ?_)
          have fx2 : FX KAc h h2 := FX.pL fxx hv2e (by unfold KAc; omega)
          refine gf_iinc (pc := 16) (Nat.le_of_ble_eq_true rfl) rfl (ti_rfl l3) (ti_c (by decide)) (by omega) (by omega) dJ7_fill_d0a16_16 (fun v3 e4 => ?_)
          refine go_lv (lv2 := [(0, .ref 62), (1, .long l1), (3, .int v3), (4, .int l4)]) rfl ?_
          refine go_goto (pc := 19) (tgt := 6) (by decide) dJ7_fill_d0a16_19 ?_
          have z5 : (v3 : Int32).toInt = (l3.toInt + 1) := e4
          exact go_lv rfl (ih l1 v3 l4 h2 hv2 (by omega) (by omega) (by omega) (by omega) fx2 (by omega))
  refine go_iconst (pc := 0) (v := 0) (by decide) dJ7_fill_d0a16_0 ?_
  refine go_istore_n (pc := 1) (Nat.le_of_ble_eq_true rfl) dJ7_fill_d0a16_1 (go_lv (lv2 := [(0, .ref 62), (1, .long a2), (3, .int 0)]) rfl ?_)
  refine go_aload_n (pc := 2) rfl dJ7_fill_d0a16_2 ?_
  refine go_alen (pc := 3) (v := 45) (hv.sh rfl) (by decide) (by decide) dJ7_fill_d0a16_3 ?_
  refine go_istore (pc := 4) (Nat.le_of_ble_eq_true rfl) dJ7_fill_d0a16_4 (go_lv (lv2 := [(0, .ref 62), (1, .long a2), (3, .int 0), (4, .int 45)]) rfl ?_)
  have z6 : (0 : Int32).toInt = 0 := (ti_c (v := 0) (a := 0) (by decide))
  have z7 : (45 : Int32).toInt = 45 := (ti_c (v := 45) (a := 45) (by decide))
  exact go_lv rfl ((key 154) a2 0 45 h hv (by omega) (by omega) (by omega) (by omega) fx (by omega))
set_option maxHeartbeats 4000000 in
set_option maxRecDepth 100000 in
theorem s_J7_fill_53178_at51_f (l : Launch) (d : Nat) {P : PP} {h : HP} (hv : Iv P h) (a2 : Int32) : Mt l yJ7_fill_53178 cJ7_fill_53178 4 none (d + 1) [.ref 51, .int a2] h 0 0 (fun r h' => r = none ∧ Iv P h' ∧ (FX KAc h h')) := by
  refine Mt_iv hv (by decide) (Nat.le_of_ble_eq_true rfl) ?_
  show Go l RJ7 cJ7_fill_53178 4 (g_rm (d + 1) 0 0) "fill" none 117 0 0 (fun _ _ => True) (fun r h' => r = none ∧ Iv P h' ∧ (FX KAc h h')) 0 0 [(0, .ref 51), (1, .int a2)] [] h
  have fx : FX KAc h h := FX.rfl
  have key : ∀ n : Nat, (∀ (l1 : Int32) (l2 : Int32) (l3 : Int32) (hx : HP), Iv P hx → 0 ≤ l2.toInt → l2.toInt ≤ 30 → 30 ≤ l3.toInt → l3.toInt ≤ 30 → FX KAc h hx → (3 * (30 - l2.toInt) + 2 : Int) < n → Go l RJ7 cJ7_fill_53178 4 (g_rm (d + 1) 0 0) "fill" none 117 0 0 (fun _ _ => True) (fun r h' => r = none ∧ Iv P h' ∧ (FX KAc h h')) 0 5 [(0, .ref 51), (1, .int l1), (2, .int l2), (3, .int l3)] [] hx) := by
    intro n
    induction n with
    | zero => exact (by intros; omega)
    | succ n ih =>
      refine ?_
      ·
        intro l1 l2 l3 hx hvx l2l l2u l3l l3u fxx hm
        refine go_iload_n (pc := 5) rfl dJ7_fill_53178_5 ?_
        refine go_iload_n (pc := 6) rfl dJ7_fill_53178_6 ?_
        refine gf_icmp_ge (pc := 7) (tgt := 20) (ti_rfl l2) (ti_rfl l3) (by decide) dJ7_fill_53178_7 (fun q1 => ?_) (fun q1 => ?_)
        ·
          exact gi_vret (pc := 20) ⟨rfl, hvx, fxx⟩ hvx dJ7_fill_53178_20
        ·
          refine go_aload_n (pc := 10) rfl dJ7_fill_53178_10 ?_
          refine go_iload_n (pc := 11) rfl dJ7_fill_53178_11 ?_
          refine go_iload_n (pc := 12) rfl dJ7_fill_53178_12 ?_
          refine gi_iast (pc := 13) (lo := -2147483648) (hi := 2147483647) (len := 30) hvx (ti_rfl l2) (ti_rfl l1) rfl (by omega) (by omega) (fun _ => rfl) (ti_ge (ti_rfl l1)) (ti_le2 (ti_rfl l1)) (by decide) dJ7_fill_53178_13 (fun h2 hv2 hv2e => ?_)
          have fx2 : FX KAc h h2 := FX.pI fxx hv2e (by unfold KAc; omega)
          refine gf_iinc (pc := 14) (Nat.le_of_ble_eq_true rfl) rfl (ti_rfl l2) (ti_c (by decide)) (by omega) (by omega) dJ7_fill_53178_14 (fun v3 e4 => ?_)
          refine go_lv (lv2 := [(0, .ref 51), (1, .int l1), (2, .int v3), (3, .int l3)]) rfl ?_
          refine go_goto (pc := 17) (tgt := 5) (by decide) dJ7_fill_53178_17 ?_
          have z5 : (v3 : Int32).toInt = (l2.toInt + 1) := e4
          exact go_lv rfl (ih l1 v3 l3 h2 hv2 (by omega) (by omega) (by omega) (by omega) fx2 (by omega))
  refine go_iconst (pc := 0) (v := 0) (by decide) dJ7_fill_53178_0 ?_
  refine go_istore_n (pc := 1) (Nat.le_of_ble_eq_true rfl) dJ7_fill_53178_1 (go_lv (lv2 := [(0, .ref 51), (1, .int a2), (2, .int 0)]) rfl ?_)
  refine go_aload_n (pc := 2) rfl dJ7_fill_53178_2 ?_
  refine go_alen (pc := 3) (v := 30) (hv.sh rfl) (by decide) (by decide) dJ7_fill_53178_3 ?_
  refine go_istore_n (pc := 4) (Nat.le_of_ble_eq_true rfl) dJ7_fill_53178_4 (go_lv (lv2 := [(0, .ref 51), (1, .int a2), (2, .int 0), (3, .int 30)]) rfl ?_)
  have z6 : (0 : Int32).toInt = 0 := (ti_c (v := 0) (a := 0) (by decide))
  have z7 : (30 : Int32).toInt = 30 := (ti_c (v := 30) (a := 30) (by decide))
  exact go_lv rfl ((key 109) a2 0 30 h hv (by omega) (by omega) (by omega) (by omega) fx (by omega))
set_option maxHeartbeats 4000000 in
set_option maxRecDepth 100000 in
theorem s_J7_fill_53178_at65_f (l : Launch) (d : Nat) {P : PP} {h : HP} (hv : Iv P h) (a2 : Int32) : Mt l yJ7_fill_53178 cJ7_fill_53178 4 none (d + 1) [.ref 65, .int a2] h 0 0 (fun r h' => r = none ∧ Iv P h' ∧ (FX KAc h h')) := by
  refine Mt_iv hv (by decide) (Nat.le_of_ble_eq_true rfl) ?_
  show Go l RJ7 cJ7_fill_53178 4 (g_rm (d + 1) 0 0) "fill" none 117 0 0 (fun _ _ => True) (fun r h' => r = none ∧ Iv P h' ∧ (FX KAc h h')) 0 0 [(0, .ref 65), (1, .int a2)] [] h
  have fx : FX KAc h h := FX.rfl
  have key : ∀ n : Nat, (∀ (l1 : Int32) (l2 : Int32) (l3 : Int32) (hx : HP), Iv P hx → 0 ≤ l2.toInt → l2.toInt ≤ 4 → 4 ≤ l3.toInt → l3.toInt ≤ 4 → FX KAc h hx → (3 * (4 - l2.toInt) + 2 : Int) < n → Go l RJ7 cJ7_fill_53178 4 (g_rm (d + 1) 0 0) "fill" none 117 0 0 (fun _ _ => True) (fun r h' => r = none ∧ Iv P h' ∧ (FX KAc h h')) 0 5 [(0, .ref 65), (1, .int l1), (2, .int l2), (3, .int l3)] [] hx) := by
    intro n
    induction n with
    | zero => exact (by intros; omega)
    | succ n ih =>
      refine ?_
      ·
        intro l1 l2 l3 hx hvx l2l l2u l3l l3u fxx hm
        refine go_iload_n (pc := 5) rfl dJ7_fill_53178_5 ?_
        refine go_iload_n (pc := 6) rfl dJ7_fill_53178_6 ?_
        refine gf_icmp_ge (pc := 7) (tgt := 20) (ti_rfl l2) (ti_rfl l3) (by decide) dJ7_fill_53178_7 (fun q1 => ?_) (fun q1 => ?_)
        ·
          exact gi_vret (pc := 20) ⟨rfl, hvx, fxx⟩ hvx dJ7_fill_53178_20
        ·
          refine go_aload_n (pc := 10) rfl dJ7_fill_53178_10 ?_
          refine go_iload_n (pc := 11) rfl dJ7_fill_53178_11 ?_
          refine go_iload_n (pc := 12) rfl dJ7_fill_53178_12 ?_
          refine gi_iast (pc := 13) (lo := -2147483648) (hi := 2147483647) (len := 4) hvx (ti_rfl l2) (ti_rfl l1) rfl (by omega) (by omega) (fun _ => rfl) (ti_ge (ti_rfl l1)) (ti_le2 (ti_rfl l1)) (by decide) dJ7_fill_53178_13 (fun h2 hv2 hv2e => ?_)
          have fx2 : FX KAc h h2 := FX.pI fxx hv2e (by unfold KAc; omega)
          refine gf_iinc (pc := 14) (Nat.le_of_ble_eq_true rfl) rfl (ti_rfl l2) (ti_c (by decide)) (by omega) (by omega) dJ7_fill_53178_14 (fun v3 e4 => ?_)
          refine go_lv (lv2 := [(0, .ref 65), (1, .int l1), (2, .int v3), (3, .int l3)]) rfl ?_
          refine go_goto (pc := 17) (tgt := 5) (by decide) dJ7_fill_53178_17 ?_
          have z5 : (v3 : Int32).toInt = (l2.toInt + 1) := e4
          exact go_lv rfl (ih l1 v3 l3 h2 hv2 (by omega) (by omega) (by omega) (by omega) fx2 (by omega))
  refine go_iconst (pc := 0) (v := 0) (by decide) dJ7_fill_53178_0 ?_
  refine go_istore_n (pc := 1) (Nat.le_of_ble_eq_true rfl) dJ7_fill_53178_1 (go_lv (lv2 := [(0, .ref 65), (1, .int a2), (2, .int 0)]) rfl ?_)
  refine go_aload_n (pc := 2) rfl dJ7_fill_53178_2 ?_
  refine go_alen (pc := 3) (v := 4) (hv.sh rfl) (by decide) (by decide) dJ7_fill_53178_3 ?_
  refine go_istore_n (pc := 4) (Nat.le_of_ble_eq_true rfl) dJ7_fill_53178_4 (go_lv (lv2 := [(0, .ref 65), (1, .int a2), (2, .int 0), (3, .int 4)]) rfl ?_)
  have z6 : (0 : Int32).toInt = 0 := (ti_c (v := 0) (a := 0) (by decide))
  have z7 : (4 : Int32).toInt = 4 := (ti_c (v := 4) (a := 4) (by decide))
  exact go_lv rfl ((key 31) a2 0 4 h hv (by omega) (by omega) (by omega) (by omega) fx (by omega))
set_option maxHeartbeats 4000000 in
set_option maxRecDepth 100000 in
theorem s_X1_tie_f (l : Launch) (d : Nat) {P : PP} {h : HP} (hv : Iv P h) (a2 : Int32) (a2l : 0 ≤ a2.toInt) (a2u : a2.toInt ≤ 44) (a3 : Int32) (a3l : 0 ≤ a3.toInt) (a3u : a3.toInt ≤ 12) (a4 : Int32) (a4l : 0 ≤ a4.toInt) (a4u : a4.toInt ≤ 12) (a5 : Int64) : Mt l yX1_tie cX1_tie 6 none (d + 1) [.ref 57, .int a2, .int a3, .int a4, .long a5] h 0 0 (fun r h' => r = none ∧ Iv P h' ∧ (FX KAc h h')) := by
  refine Mt_iv hv (by decide) (Nat.le_of_ble_eq_true rfl) ?_
  show Go l RX1 cX1_tie 6 (g_rm (d + 1) 0 0) "tie" none 117 0 0 (fun _ _ => True) (fun r h' => r = none ∧ Iv P h' ∧ (FX KAc h h')) 0 0 [(0, .ref 57), (1, .int a2), (2, .int a3), (3, .int a4), (4, .long a5)] [] h
  have fx : FX KAc h h := FX.rfl
  refine go_aload_n (pc := 0) rfl dX1_tie_0 ?_
  refine gi_getF (pc := 1) (q := 58) hv fL_X1_9 rfl (Nat.le_of_ble_eq_true rfl) rfl (hv.rf (by decide)) dX1_tie_1 ?_
  refine go_iload_n (pc := 4) rfl dX1_tie_4 ?_
  refine go_bipush (pc := 5) (v := 13) (by decide) dX1_tie_5 ?_
  refine gf_imul (pc := 7) (ti_rfl a2) (ti_c (v := 13) (a := 13) (by decide)) (by omega) (by omega) dX1_tie_7 (fun v1 e2 => ?_)
  refine go_iload_n (pc := 8) rfl dX1_tie_8 ?_
  refine gf_iadd (pc := 9) e2 (ti_rfl a3) (by omega) (by omega) dX1_tie_9 (fun v3 e4 => ?_)
  refine go_bipush (pc := 10) (v := 13) (by decide) dX1_tie_10 ?_
  refine gf_imul (pc := 12) e4 (ti_c (v := 13) (a := 13) (by decide)) (by omega) (by omega) dX1_tie_12 (fun v5 e6 => ?_)
  refine go_iload_n (pc := 13) rfl dX1_tie_13 ?_
  refine gf_iadd (pc := 14) e6 (ti_rfl a4) (by omega) (by omega) dX1_tie_14 (fun v7 e8 => ?_)
  refine go_dup2 (pc := 15) rfl rfl dX1_tie_15 ?_
  refine gi_lald (pc := 16) (len := 7605) hv e8 rfl (by omega) (by omega) dX1_tie_16 (fun v9 v9w => ?_)
  refine go_lload (pc := 17) rfl dX1_tie_17 ?_
  refine gu_lor (pc := 19) dX1_tie_19 (fun v10 => ?_)
  refine gi_last (pc := 20) (len := 7605) hv e8 rfl (by omega) (by omega) dX1_tie_20 (fun h11 hv11 hv11e => ?_)
  have fx11 : FX KAc h h11 := FX.pL fx hv11e (by unfold KAc; omega)
  exact gi_vret (pc := 21) ⟨rfl, hv11, fx11⟩ hv11 dX1_tie_21
set_option maxHeartbeats 4000000 in
set_option maxRecDepth 100000 in
theorem s_X1_findCertain_f (l : Launch) (d : Nat) {P : PP} {h : HP} (hv : Iv P h)  : Mt l yX1_findCertain cX1_findCertain 6 none (d + 3) [.ref 57] h 0 0 (fun r h' => r = none ∧ Iv P h' ∧ (FX KAc h h')) := by
  refine Mt_iv hv (by decide) (Nat.le_of_ble_eq_true rfl) ?_
  show Go l RX1 cX1_findCertain 6 (g_rm (d + 3) 0 0) "findCertain" none 117 0 0 (fun _ _ => True) (fun r h' => r = none ∧ Iv P h' ∧ (FX KAc h h')) 0 0 [(0, .ref 57)] [] h
  have fx : FX KAc h h := FX.rfl
  have key : ∀ n : Nat, (∀ (l1 : Int32) (hx : HP), Iv P hx → 0 ≤ l1.toInt → l1.toInt ≤ 45 → FX KAc h hx → (4 * (45 - l1.toInt) + 639430 : Int) < n → Go l RX1 cX1_findCertain 6 (g_rm (d + 3) 0 0) "findCertain" none 117 0 0 (fun _ _ => True) (fun r h' => r = none ∧ Iv P h' ∧ (FX KAc h h')) 0 2 [(0, .ref 57), (1, .int l1)] [] hx) ∧ (∀ (l1 : Int32) (s0 : Int64) (s1 : Int32) (hx : HP), Iv P hx → 0 ≤ l1.toInt → l1.toInt ≤ 44 → 0 ≤ s1.toInt → s1.toInt ≤ 44 → FX KAc h hx → (4 * (45 - l1.toInt) + 639429 : Int) < n → Go l RX1 cX1_findCertain 6 (g_rm (d + 3) 0 0) "findCertain" none 117 0 0 (fun _ _ => True) (fun r h' => r = none ∧ Iv P h' ∧ (FX KAc h h')) 0 26 [(0, .ref 57), (1, .int l1)] [.long s0, .int s1, .ref 63] hx) ∧ (∀ (l1 : Int32) (l2 : Int32) (hx : HP), Iv P hx → 0 ≤ l1.toInt → l1.toInt ≤ 1 → 0 ≤ l2.toInt → l2.toInt ≤ 3000 → FX KAc h hx → (213 * (3000 - l2.toInt) + 213 : Int) < n → Go l RX1 cX1_findCertain 6 (g_rm (d + 3) 0 0) "findCertain" none 117 0 0 (fun _ _ => True) (fun r h' => r = none ∧ Iv P h' ∧ (FX KAc h h')) 0 37 [(0, .ref 57), (1, .int l1), (2, .int l2)] [] hx) ∧ (∀ (l1 : Int32) (l2 : Int32) (l3 : Int32) (hx : HP), Iv P hx → 0 ≤ l1.toInt → l1.toInt ≤ 1 → 0 ≤ l2.toInt → l2.toInt ≤ 2025 → -1 ≤ l3.toInt → l3.toInt ≤ 39 → FX KAc h hx → (5 * (l3.toInt + 1) + 213 * (3000 - l2.toInt) + 6 : Int) < n → Go l RX1 cX1_findCertain 6 (g_rm (d + 3) 0 0) "findCertain" none 117 0 0 (fun _ _ => True) (fun r h' => r = none ∧ Iv P h' ∧ (FX KAc h h')) 0 60 [(0, .ref 57), (1, .int l1), (2, .int l2), (3, .int l3)] [] hx) ∧ (∀ (l1 : Int32) (l2 : Int32) (l3 : Int32) (l4 : Int64) (hx : HP), Iv P hx → 0 ≤ l1.toInt → l1.toInt ≤ 1 → 0 ≤ l2.toInt → l2.toInt ≤ 2025 → 0 ≤ l3.toInt → l3.toInt ≤ 39 → FX KAc h hx → (5 * (l3.toInt + 1) + 213 * (3000 - l2.toInt) + 5 : Int) < n → Go l RX1 cX1_findCertain 6 (g_rm (d + 3) 0 0) "findCertain" none 117 0 0 (fun _ _ => True) (fun r h' => r = none ∧ Iv P h' ∧ (FX KAc h h')) 0 110 [(0, .ref 57), (1, .int l1), (2, .int l2), (3, .int l3), (4, .long l4)] [] hx) ∧ (∀ (l2 : Int32) (l3 : Int32) (l4 : Int64) (s0 : Int32) (s1 : Int32) (hx : HP), Iv P hx → 0 ≤ l2.toInt → l2.toInt ≤ 2025 → 0 ≤ l3.toInt → l3.toInt ≤ 39 → 0 ≤ s0.toInt → s0.toInt ≤ 1 → 0 ≤ s1.toInt → s1.toInt ≤ 1 → FX KAc h hx → (5 * (l3.toInt + 1) + 213 * (3000 - l2.toInt) + 4 : Int) < n → Go l RX1 cX1_findCertain 6 (g_rm (d + 3) 0 0) "findCertain" none 117 0 0 (fun _ _ => True) (fun r h' => r = none ∧ Iv P h' ∧ (FX KAc h h')) 0 137 [(0, .ref 57), (2, .int l2), (3, .int l3), (4, .long l4)] [.int s0, .int s1] hx) ∧ (∀  (hx : HP), Iv P hx → FX KAc h hx → (1 : Int) < n → Go l RX1 cX1_findCertain 6 (g_rm (d + 3) 0 0) "findCertain" none 117 0 0 (fun _ _ => True) (fun r h' => r = none ∧ Iv P h' ∧ (FX KAc h h')) 0 159 [] [] hx) := by
    intro n
    induction n with
    | zero => exact ⟨(by intros; omega), (by intros; omega), (by intros; omega), (by intros; omega), (by intros; omega), (by intros; omega), (by intros; omega)⟩
    | succ n ih =>
      refine ⟨?_, ?_, ?_, ?_, ?_, ?_, ?_⟩
      ·
        intro l1 hx hvx l1l l1u fxx hm
        refine go_iload_n (pc := 2) rfl dX1_findCertain_2 ?_
        refine go_bipush (pc := 3) (v := 45) (by decide) dX1_findCertain_3 ?_
        refine gf_icmp_ge (pc := 5) (tgt := 33) (ti_rfl l1) (ti_c (v := 45) (a := 45) (by decide)) (by decide) dX1_findCertain_5 (fun q1 => ?_) (fun q1 => ?_)
        ·
          refine go_iconst (pc := 33) (v := 1) (by decide) dX1_findCertain_33 ?_
          refine go_istore_n (pc := 34) (Nat.le_of_ble_eq_true rfl) dX1_findCertain_34 (go_lv (lv2 := [(0, .ref 57), (1, .int 1)]) rfl ?_)
          refine go_iconst (pc := 35) (v := 0) (by decide) dX1_findCertain_35 ?_
          refine go_istore_n (pc := 36) (Nat.le_of_ble_eq_true rfl) dX1_findCertain_36 (go_lv (lv2 := [(0, .ref 57), (1, .int 1), (2, .int 0)]) rfl ?_)
          have z2 : (1 : Int32).toInt = 1 := (ti_c (v := 1) (a := 1) (by decide))
          have z3 : (0 : Int32).toInt = 0 := (ti_c (v := 0) (a := 0) (by decide))
          exact go_lv rfl (ih.2.2.1 1 0 hx hvx (by omega) (by omega) (by omega) (by omega) fxx (by omega))
        ·
          refine go_aload_n (pc := 8) rfl dX1_findCertain_8 ?_
          refine gi_getF (pc := 9) (q := 63) hvx fL_X1_27 rfl (Nat.le_of_ble_eq_true rfl) rfl (hvx.rf (by decide)) dX1_findCertain_9 ?_
          refine go_iload_n (pc := 12) rfl dX1_findCertain_12 ?_
          refine go_iload_n (pc := 13) rfl dX1_findCertain_13 ?_
          refine go_bipush (pc := 14) (v := 40) (by decide) dX1_findCertain_14 ?_
          refine gf_icmp_ge (pc := 16) (tgt := 25) (ti_rfl l1) (ti_c (v := 40) (a := 40) (by decide)) (by decide) dX1_findCertain_16 (fun q4 => ?_) (fun q4 => ?_)
          ·
            refine go_lconst (pc := 25) (v := 0) (by decide) dX1_findCertain_25 ?_
            exact go_lv rfl (ih.2.1 l1 0 l1 hx hvx (by omega) (by omega) (by omega) (by omega) fxx (by omega))
          ·
            refine go_ldc2 (pc := 19) kL_X1_60 dX1_findCertain_19 ?_
            refine go_goto (pc := 22) (tgt := 26) (by decide) dX1_findCertain_22 ?_
            exact go_lv rfl (ih.2.1 l1 1099511627775 l1 hx hvx (by omega) (by omega) (by omega) (by omega) fxx (by omega))
      ·
        intro l1 s0 s1 hx hvx l1l l1u s1l s1u fxx hm
        refine gi_last (pc := 26) (len := 45) hvx (ti_rfl s1) rfl (by omega) (by omega) dX1_findCertain_26 (fun h5 hv5 hv5e => ?_)
        have fx5 : FX KAc h h5 := FX.pL fxx hv5e (by unfold KAc; omega)
        refine gf_iinc (pc := 27) (Nat.le_of_ble_eq_true rfl) rfl (ti_rfl l1) (ti_c (by decide)) (by omega) (by omega) dX1_findCertain_27 (fun v6 e7 => ?_)
        refine go_lv (lv2 := [(0, .ref 57), (1, .int v6)]) rfl ?_
        refine go_goto (pc := 30) (tgt := 2) (by decide) dX1_findCertain_30 ?_
        have z8 : (v6 : Int32).toInt = (l1.toInt + 1) := e7
        exact go_lv rfl (ih.1 v6 h5 hv5 (by omega) (by omega) fx5 (by omega))
      ·
        intro l1 l2 hx hvx l1l l1u l2l l2u fxx hm
        refine go_iload_n (pc := 37) rfl dX1_findCertain_37 ?_
        refine go_sipush (pc := 38) (v := 2025) (by decide) dX1_findCertain_38 ?_
        refine gf_icmp_ge (pc := 41) (tgt := 159) (ti_rfl l2) (ti_c (v := 2025) (a := 2025) (by decide)) (by decide) dX1_findCertain_41 (fun q9 => ?_) (fun q9 => ?_)
        ·
          exact go_lv rfl (ih.2.2.2.2.2.2  hx hvx fxx (by omega))
        ·
          refine go_iload_n (pc := 44) rfl dX1_findCertain_44 ?_
          refine gf_if_eq (pc := 45) (tgt := 159) (ti_rfl l1) (by decide) dX1_findCertain_45 (fun q10 => ?_) (fun q10 => ?_)
          ·
            exact go_lv rfl (ih.2.2.2.2.2.2  hx hvx fxx (by omega))
          ·
            refine go_iconst (pc := 48) (v := 0) (by decide) dX1_findCertain_48 ?_
            refine go_istore_n (pc := 49) (Nat.le_of_ble_eq_true rfl) dX1_findCertain_49 (go_lv (lv2 := [(0, .ref 57), (1, .int 0), (2, .int l2)]) rfl ?_)
            refine go_aload_n (pc := 50) rfl dX1_findCertain_50 ?_
            refine gi_getC (pc := 51) hvx fL_X1_30 rfl (Nat.le_of_ble_eq_true rfl) rfl (by decide) dX1_findCertain_51 (fun c11 hc11 fc11 => ?_)
            refine gi_get (pc := 54) (lo := 0) (hi := 40) hvx fL_X1_62 (by rcases hc11 with rfl | rfl <;> rfl) (Nat.le_of_ble_eq_true rfl) rfl (by rcases hc11 with rfl | rfl <;> rfl) dX1_findCertain_54 (fun v12 v12l v12u v12w => ?_)
            refine go_iconst (pc := 57) (v := 1) (by decide) dX1_findCertain_57 ?_
            refine gf_isub (pc := 58) (ti_rfl v12) (ti_c (v := 1) (a := 1) (by decide)) (by omega) (by omega) dX1_findCertain_58 (fun v13 e14 => ?_)
            refine go_istore_n (pc := 59) (Nat.le_of_ble_eq_true rfl) dX1_findCertain_59 (go_lv (lv2 := [(0, .ref 57), (1, .int 0), (2, .int l2), (3, .int v13)]) rfl ?_)
            have z15 : (0 : Int32).toInt = 0 := (ti_c (v := 0) (a := 0) (by decide))
            have z16 : (v13 : Int32).toInt = (v12.toInt - 1) := e14
            exact go_lv rfl (ih.2.2.2.1 0 l2 v13 hx hvx (by omega) (by omega) (by omega) (by omega) (by omega) (by omega) fxx (by omega))
      ·
        intro l1 l2 l3 hx hvx l1l l1u l2l l2u l3l l3u fxx hm
        refine go_iload_n (pc := 60) rfl dX1_findCertain_60 ?_
        refine gf_if_lt (pc := 61) (tgt := 153) (ti_rfl l3) (by decide) dX1_findCertain_61 (fun q17 => ?_) (fun q17 => ?_)
        ·
          refine gf_iinc (pc := 153) (Nat.le_of_ble_eq_true rfl) rfl (ti_rfl l2) (ti_c (by decide)) (by omega) (by omega) dX1_findCertain_153 (fun v18 e19 => ?_)
          refine go_lv (lv2 := [(0, .ref 57), (1, .int l1), (2, .int v18), (3, .int l3)]) rfl ?_
          refine go_goto (pc := 156) (tgt := 37) (by decide) dX1_findCertain_156 ?_
          have z20 : (v18 : Int32).toInt = (l2.toInt + 1) := e19
          exact go_lv rfl (ih.2.2.1 l1 v18 hx hvx (by omega) (by omega) (by omega) (by omega) fxx (by omega))
        ·
          refine go_aload_n (pc := 64) rfl dX1_findCertain_64 ?_
          refine gi_getF (pc := 65) (q := 63) hvx fL_X1_27 rfl (Nat.le_of_ble_eq_true rfl) rfl (hvx.rf (by decide)) dX1_findCertain_65 ?_
          refine go_aload_n (pc := 68) rfl dX1_findCertain_68 ?_
          refine gi_getC (pc := 69) hvx fL_X1_30 rfl (Nat.le_of_ble_eq_true rfl) rfl (by decide) dX1_findCertain_69 (fun c21 hc21 fc21 => ?_)
          refine gi_getF (pc := 72) (q := c21 + 12) hvx fL_X1_68 (by rcases hc21 with rfl | rfl <;> rfl) (Nat.le_of_ble_eq_true rfl) rfl (by rcases hc21 with rfl | rfl <;> exact hvx.rf (by decide)) dX1_findCertain_72 ?_
          refine go_iload_n (pc := 75) rfl dX1_findCertain_75 ?_
          refine gi_iald (pc := 76) (lo := 0) (hi := 44) (len := 40) hvx (ti_rfl l3) (by rcases hc21 with rfl | rfl <;> rfl) (by omega) (by omega) (fun _ => by rcases hc21 with rfl | rfl <;> rfl) dX1_findCertain_76 (fun v22 v22l v22u v22w => ?_)
          refine gi_lald (pc := 77) (len := 45) hvx (ti_rfl v22) rfl (by omega) (by omega) dX1_findCertain_77 (fun v23 v23w => ?_)
          refine go_lstore (pc := 78) (Nat.le_of_ble_eq_true rfl) dX1_findCertain_78 (go_lv (lv2 := [(0, .ref 57), (1, .int l1), (2, .int l2), (3, .int l3), (4, .long v23)]) rfl ?_)
          refine go_aload_n (pc := 80) rfl dX1_findCertain_80 ?_
          refine gi_getC (pc := 81) hvx fL_X1_30 rfl (Nat.le_of_ble_eq_true rfl) rfl (by decide) dX1_findCertain_81 (fun c24 hc24 fc24 => ?_)
          refine go_iload_n (pc := 84) rfl dX1_findCertain_84 ?_
          refine go_invV (pc := 85) (sl := 0) (s_X0_decides_f l (d + 0) hvx c24 hc24 l3 (by rw [show (l3 : Int32).toInt = l3.toInt from (ti_rfl l3)]; omega) (by rw [show (l3 : Int32).toInt = l3.toInt from (ti_rfl l3)]; omega)) mL_X1_72 iM_X0_decides sM_X0_decides (hvx.sh (by rcases hc24 with rfl | rfl <;> rfl)) rfl rfl rfl (Nat.le_of_ble_eq_true rfl) (show d + 0 + 2 + 1 ≤ d + 3 by omega) (show 8 + (2 + 11) + 40 * (d + 0 + 2) ≤ 40 * (d + 3) by omega) (g_c0 hvx.ln) (Nat.le_of_ble_eq_true rfl) dX1_findCertain_85 ?_
          intro r h25 hq _
          obtain ⟨v27, rfl, v27l, v27u, rfl, f26⟩ := hq
          refine gf_if_eq (pc := 88) (tgt := 110) (ti_rfl v27) (by decide) dX1_findCertain_88 (fun q28 => ?_) (fun q28 => ?_)
          ·
            exact go_lv rfl (ih.2.2.2.2.1 l1 l2 l3 v23 hx hvx (by omega) (by omega) (by omega) (by omega) (by omega) (by omega) fxx (by omega))
          ·
            refine go_lload (pc := 91) rfl dX1_findCertain_91 ?_
            refine go_aload_n (pc := 93) rfl dX1_findCertain_93 ?_
            refine gi_getF (pc := 94) (q := 63) hvx fL_X1_27 rfl (Nat.le_of_ble_eq_true rfl) rfl (hvx.rf (by decide)) dX1_findCertain_94 ?_
            refine go_aload_n (pc := 97) rfl dX1_findCertain_97 ?_
            refine gi_getC (pc := 98) hvx fL_X1_30 rfl (Nat.le_of_ble_eq_true rfl) rfl (by decide) dX1_findCertain_98 (fun c29 hc29 fc29 => ?_)
            refine gi_getF (pc := 101) (q := c29 + 13) hvx fL_X1_76 (by rcases hc29 with rfl | rfl <;> rfl) (Nat.le_of_ble_eq_true rfl) rfl (by rcases hc29 with rfl | rfl <;> exact hvx.rf (by decide)) dX1_findCertain_101 ?_
            refine go_iload_n (pc := 104) rfl dX1_findCertain_104 ?_
            refine gi_iald (pc := 105) (lo := 0) (hi := 44) (len := 40) hvx (ti_rfl l3) (by rcases hc29 with rfl | rfl <;> rfl) (by omega) (by omega) (fun _ => by rcases hc29 with rfl | rfl <;> rfl) dX1_findCertain_105 (fun v30 v30l v30u v30w => ?_)
            refine gi_lald (pc := 106) (len := 45) hvx (ti_rfl v30) rfl (by omega) (by omega) dX1_findCertain_106 (fun v31 v31w => ?_)
            refine gu_land (pc := 107) dX1_findCertain_107 (fun v32 => ?_)
            refine go_lstore (pc := 108) (Nat.le_of_ble_eq_true rfl) dX1_findCertain_108 (go_lv (lv2 := [(0, .ref 57), (1, .int l1), (2, .int l2), (3, .int l3), (4, .long v32)]) rfl ?_)
            exact go_lv rfl (ih.2.2.2.2.1 l1 l2 l3 v32 hx hvx (by omega) (by omega) (by omega) (by omega) (by omega) (by omega) fxx (by omega))
      ·
        intro l1 l2 l3 l4 hx hvx l1l l1u l2l l2u l3l l3u fxx hm
        refine go_lload (pc := 110) rfl dX1_findCertain_110 ?_
        refine go_iload_n (pc := 112) rfl dX1_findCertain_112 ?_
        refine go_invS (pc := 113) (sl := 0) (s_X7_bit_f l (d + 1) hvx l3) mL_X1_79 iM_X7_bit rfl rfl (Nat.le_of_ble_eq_true rfl) (show d + 1 + 1 + 1 ≤ d + 3 by omega) (show 8 + (1 + 11) + 40 * (d + 1 + 1) ≤ 40 * (d + 3) by omega) (g_c0 hvx.ln) (Nat.le_of_ble_eq_true rfl) dX1_findCertain_113 ?_
        intro r h33 hq _
        obtain ⟨v35, rfl, rfl, f34⟩ := hq
        refine gu_lor (pc := 116) dX1_findCertain_116 (fun v36 => ?_)
        refine go_lstore (pc := 117) (Nat.le_of_ble_eq_true rfl) dX1_findCertain_117 (go_lv (lv2 := [(0, .ref 57), (1, .int l1), (2, .int l2), (3, .int l3), (4, .long v36)]) rfl ?_)
        refine go_iload_n (pc := 119) rfl dX1_findCertain_119 ?_
        refine go_lload (pc := 120) rfl dX1_findCertain_120 ?_
        refine go_aload_n (pc := 122) rfl dX1_findCertain_122 ?_
        refine gi_getF (pc := 123) (q := 63) hvx fL_X1_27 rfl (Nat.le_of_ble_eq_true rfl) rfl (hvx.rf (by decide)) dX1_findCertain_123 ?_
        refine go_iload_n (pc := 126) rfl dX1_findCertain_126 ?_
        refine gi_lald (pc := 127) (len := 45) hvx (ti_rfl l3) rfl (by omega) (by omega) dX1_findCertain_127 (fun v37 v37w => ?_)
        refine gu_lcmp (pc := 128) dX1_findCertain_128 (fun v38 => ?_)
        refine gf_if_eq (pc := 129) (tgt := 136) (ti_rfl v38) (by decide) dX1_findCertain_129 (fun q39 => ?_) (fun q39 => ?_)
        ·
          refine go_iconst (pc := 136) (v := 0) (by decide) dX1_findCertain_136 ?_
          have z40 : (0 : Int32).toInt = 0 := (ti_c (v := 0) (a := 0) (by decide))
          exact go_lv rfl (ih.2.2.2.2.2.1 l2 l3 v36 0 l1 hx hvx (by omega) (by omega) (by omega) (by omega) (by omega) (by omega) (by omega) (by omega) fxx (by omega))
        ·
          refine go_iconst (pc := 132) (v := 1) (by decide) dX1_findCertain_132 ?_
          refine go_goto (pc := 133) (tgt := 137) (by decide) dX1_findCertain_133 ?_
          have z41 : (1 : Int32).toInt = 1 := (ti_c (v := 1) (a := 1) (by decide))
          exact go_lv rfl (ih.2.2.2.2.2.1 l2 l3 v36 1 l1 hx hvx (by omega) (by omega) (by omega) (by omega) (by omega) (by omega) (by omega) (by omega) fxx (by omega))
      ·
        intro l2 l3 l4 s0 s1 hx hvx l2l l2u l3l l3u s0l s0u s1l s1u fxx hm
        refine gf_ior (pc := 137) (ti_rfl s1) (ti_rfl s0) (by omega) (by omega) (by omega) (by omega) dX1_findCertain_137 (fun v42 v42l v42u => ?_)
        refine go_istore_n (pc := 138) (Nat.le_of_ble_eq_true rfl) dX1_findCertain_138 (go_lv (lv2 := [(0, .ref 57), (1, .int v42), (2, .int l2), (3, .int l3), (4, .long l4)]) rfl ?_)
        refine go_aload_n (pc := 139) rfl dX1_findCertain_139 ?_
        refine gi_getF (pc := 140) (q := 63) hvx fL_X1_27 rfl (Nat.le_of_ble_eq_true rfl) rfl (hvx.rf (by decide)) dX1_findCertain_140 ?_
        refine go_iload_n (pc := 143) rfl dX1_findCertain_143 ?_
        refine go_lload (pc := 144) rfl dX1_findCertain_144 ?_
        refine gi_last (pc := 146) (len := 45) hvx (ti_rfl l3) rfl (by omega) (by omega) dX1_findCertain_146 (fun h43 hv43 hv43e => ?_)
        have fx43 : FX KAc h h43 := FX.pL fxx hv43e (by unfold KAc; omega)
        refine gf_iinc (pc := 147) (Nat.le_of_ble_eq_true rfl) rfl (ti_rfl l3) (ti_c (by decide)) (by omega) (by omega) dX1_findCertain_147 (fun v44 e45 => ?_)
        refine go_lv (lv2 := [(0, .ref 57), (1, .int v42), (2, .int l2), (3, .int v44), (4, .long l4)]) rfl ?_
        refine go_goto (pc := 150) (tgt := 60) (by decide) dX1_findCertain_150 ?_
        have z46 : (v44 : Int32).toInt = (l3.toInt + (-1)) := e45
        exact go_lv rfl (ih.2.2.2.1 v42 l2 v44 h43 hv43 (by omega) (by omega) (by omega) (by omega) (by omega) (by omega) fx43 (by omega))
      ·
        intro hx hvx fxx hm
        exact gi_vret (pc := 159) ⟨rfl, hvx, fxx⟩ hvx dX1_findCertain_159
  refine go_iconst (pc := 0) (v := 0) (by decide) dX1_findCertain_0 ?_
  refine go_istore_n (pc := 1) (Nat.le_of_ble_eq_true rfl) dX1_findCertain_1 (go_lv (lv2 := [(0, .ref 57), (1, .int 0)]) rfl ?_)
  have z47 : (0 : Int32).toInt = 0 := (ti_c (v := 0) (a := 0) (by decide))
  exact go_lv rfl ((key 639628).1 0 h hv (by omega) (by omega) fx (by omega))
set_option maxHeartbeats 4000000 in
set_option maxRecDepth 100000 in
theorem s_X1_tieAll_f (l : Launch) (d : Nat) {P : PP} {h : HP} (hv : Iv P h) (a2 : Int64) (a3 : Int32) (a3l : 0 ≤ a3.toInt) (a3u : a3.toInt ≤ 12) (a4 : Int32) : Mt l yX1_tieAll cX1_tieAll 6 none (d + 2) [.ref 57, .long a2, .int a3, .int a4] h 0 0 (fun r h' => r = none ∧ Iv P h' ∧ (FX KAc h h')) := by
  refine Mt_iv hv (by decide) (Nat.le_of_ble_eq_true rfl) ?_
  show Go l RX1 cX1_tieAll 6 (g_rm (d + 2) 0 0) "tieAll" none 117 0 0 (fun _ _ => True) (fun r h' => r = none ∧ Iv P h' ∧ (FX KAc h h')) 0 0 [(0, .ref 57), (1, .long a2), (3, .int a3), (4, .int a4)] [] h
  have fx : FX KAc h h := FX.rfl
  have key : ∀ n : Nat, (∀ (l1 : Int64) (l3 : Int32) (l4 : Int32) (l5 : Int32) (hx : HP), Iv P hx → 0 ≤ l3.toInt → l3.toInt ≤ 12 → 0 ≤ l5.toInt → l5.toInt ≤ 40 → FX KAc h hx → (4 * (40 - l5.toInt) + 3 : Int) < n → Go l RX1 cX1_tieAll 6 (g_rm (d + 2) 0 0) "tieAll" none 117 0 0 (fun _ _ => True) (fun r h' => r = none ∧ Iv P h' ∧ (FX KAc h h')) 0 3 [(0, .ref 57), (1, .long l1), (3, .int l3), (4, .int l4), (5, .int l5)] [] hx) ∧ (∀ (l1 : Int64) (l3 : Int32) (l4 : Int32) (l5 : Int32) (hx : HP), Iv P hx → 0 ≤ l3.toInt → l3.toInt ≤ 12 → 0 ≤ l5.toInt → l5.toInt ≤ 39 → FX KAc h hx → (4 * (40 - l5.toInt) + 2 : Int) < n → Go l RX1 cX1_tieAll 6 (g_rm (d + 2) 0 0) "tieAll" none 117 0 0 (fun _ _ => True) (fun r h' => r = none ∧ Iv P h' ∧ (FX KAc h h')) 0 37 [(0, .ref 57), (1, .long l1), (3, .int l3), (4, .int l4), (5, .int l5)] [] hx) := by
    intro n
    induction n with
    | zero => exact ⟨(by intros; omega), (by intros; omega)⟩
    | succ n ih =>
      refine ⟨?_, ?_⟩
      ·
        intro l1 l3 l4 l5 hx hvx l3l l3u l5l l5u fxx hm
        refine go_iload (pc := 3) rfl dX1_tieAll_3 ?_
        refine go_aload_n (pc := 5) rfl dX1_tieAll_5 ?_
        refine gi_getC (pc := 6) hvx fL_X1_30 rfl (Nat.le_of_ble_eq_true rfl) rfl (by decide) dX1_tieAll_6 (fun c1 hc1 fc1 => ?_)
        refine gi_get (pc := 9) (lo := 0) (hi := 40) hvx fL_X1_62 (by rcases hc1 with rfl | rfl <;> rfl) (Nat.le_of_ble_eq_true rfl) rfl (by rcases hc1 with rfl | rfl <;> rfl) dX1_tieAll_9 (fun v2 v2l v2u v2w => ?_)
        refine gf_icmp_ge (pc := 12) (tgt := 43) (ti_rfl l5) (ti_rfl v2) (by decide) dX1_tieAll_12 (fun q3 => ?_) (fun q3 => ?_)
        ·
          exact gi_vret (pc := 43) ⟨rfl, hvx, fxx⟩ hvx dX1_tieAll_43
        ·
          refine go_lload_n (pc := 15) rfl dX1_tieAll_15 ?_
          refine go_iload (pc := 16) rfl dX1_tieAll_16 ?_
          refine go_invS (pc := 18) (sl := 0) (s_X7_has_f l (d + 0) hvx l1 l5) mL_X1_56 iM_X7_has rfl rfl (Nat.le_of_ble_eq_true rfl) (show d + 0 + 1 + 1 ≤ d + 2 by omega) (show 8 + (3 + 11) + 40 * (d + 0 + 1) ≤ 40 * (d + 2) by omega) (g_c0 hvx.ln) (Nat.le_of_ble_eq_true rfl) dX1_tieAll_18 ?_
          intro r h4 hq _
          obtain ⟨v6, rfl, v6l, v6u, rfl, f5⟩ := hq
          refine gf_if_eq (pc := 21) (tgt := 37) (ti_rfl v6) (by decide) dX1_tieAll_21 (fun q7 => ?_) (fun q7 => ?_)
          ·
            exact go_lv rfl (ih.2 l1 l3 l4 l5 hx hvx (by omega) (by omega) (by omega) (by omega) fxx (by omega))
          ·
            refine go_aload_n (pc := 24) rfl dX1_tieAll_24 ?_
            refine go_iload (pc := 25) rfl dX1_tieAll_25 ?_
            refine go_iconst (pc := 27) (v := 0) (by decide) dX1_tieAll_27 ?_
            refine go_iload_n (pc := 28) rfl dX1_tieAll_28 ?_
            refine go_iload (pc := 29) rfl dX1_tieAll_29 ?_
            refine go_invS (pc := 31) (sl := 0) (s_X7_bit_f l (d + 0) hvx l4) mL_X1_79 iM_X7_bit rfl rfl (Nat.le_of_ble_eq_true rfl) (show d + 0 + 1 + 1 ≤ d + 2 by omega) (show 8 + (1 + 11) + 40 * (d + 0 + 1) ≤ 40 * (d + 2) by omega) (g_c0 hvx.ln) (Nat.le_of_ble_eq_true rfl) dX1_tieAll_31 ?_
            intro r h8 hq _
            obtain ⟨v10, rfl, rfl, f9⟩ := hq
            refine go_invV (pc := 34) (sl := 0) (s_X1_tie_f l (d + 0) hvx l5 (by rw [show (l5 : Int32).toInt = l5.toInt from (ti_rfl l5)]; omega) (by rw [show (l5 : Int32).toInt = l5.toInt from (ti_rfl l5)]; omega) 0 (by rw [show (0 : Int32).toInt = 0 from (ti_c (v := 0) (a := 0) (by decide))]; omega) (by rw [show (0 : Int32).toInt = 0 from (ti_c (v := 0) (a := 0) (by decide))]; omega) l3 (by rw [show (l3 : Int32).toInt = l3.toInt from (ti_rfl l3)]; omega) (by rw [show (l3 : Int32).toInt = l3.toInt from (ti_rfl l3)]; omega) v10) mL_X1_103 iM_X1_tie sM_X1_tie (hvx.sh rfl) rfl rfl rfl (Nat.le_of_ble_eq_true rfl) (show d + 0 + 1 + 1 ≤ d + 2 by omega) (show 8 + (6 + 11) + 40 * (d + 0 + 1) ≤ 40 * (d + 2) by omega) (g_c0 hvx.ln) (Nat.le_of_ble_eq_true rfl) dX1_tieAll_34 ?_
            intro r h11 hq _
            obtain ⟨rfl, hv11, f12⟩ := hq
            try rw [show (0 : Int32).toInt = 0 from (ti_c (v := 0) (a := 0) (by decide))] at f12
            have fx11 : FX KAc h h11 := FX.tr fxx f12
            exact go_lv rfl (ih.2 l1 l3 l4 l5 h11 hv11 (by omega) (by omega) (by omega) (by omega) fx11 (by omega))
      ·
        intro l1 l3 l4 l5 hx hvx l3l l3u l5l l5u fxx hm
        refine gf_iinc (pc := 37) (Nat.le_of_ble_eq_true rfl) rfl (ti_rfl l5) (ti_c (by decide)) (by omega) (by omega) dX1_tieAll_37 (fun v13 e14 => ?_)
        refine go_lv (lv2 := [(0, .ref 57), (1, .long l1), (3, .int l3), (4, .int l4), (5, .int v13)]) rfl ?_
        refine go_goto (pc := 40) (tgt := 3) (by decide) dX1_tieAll_40 ?_
        have z15 : (v13 : Int32).toInt = (l5.toInt + 1) := e14
        exact go_lv rfl (ih.1 l1 l3 l4 v13 hx hvx (by omega) (by omega) (by omega) (by omega) fxx (by omega))
  refine go_iconst (pc := 0) (v := 0) (by decide) dX1_tieAll_0 ?_
  refine go_istore (pc := 1) (Nat.le_of_ble_eq_true rfl) dX1_tieAll_1 (go_lv (lv2 := [(0, .ref 57), (1, .long a2), (3, .int a3), (4, .int a4), (5, .int 0)]) rfl ?_)
  have z16 : (0 : Int32).toInt = 0 := (ti_c (v := 0) (a := 0) (by decide))
  exact go_lv rfl ((key 181).1 a2 a3 a4 0 h hv (by omega) (by omega) (by omega) (by omega) fx (by omega))
set_option maxHeartbeats 4000000 in
set_option maxRecDepth 100000 in
theorem s_X1_tieDecided_f (l : Launch) (d : Nat) {P : PP} {h : HP} (hv : Iv P h) (a2 : Int32) (a2l : 0 ≤ a2.toInt) (a2u : a2.toInt ≤ 39) (a3 : Int64) : Mt l yX1_tieDecided cX1_tieDecided 5 none (d + 3) [.ref 57, .int a2, .long a3] h 0 0 (fun r h' => r = none ∧ Iv P h' ∧ (FX KAc h h')) := by
  refine Mt_iv hv (by decide) (Nat.le_of_ble_eq_true rfl) ?_
  show Go l RX1 cX1_tieDecided 5 (g_rm (d + 3) 0 0) "tieDecided" none 117 0 0 (fun _ _ => True) (fun r h' => r = none ∧ Iv P h' ∧ (FX KAc h h')) 0 0 [(0, .ref 57), (1, .int a2), (2, .long a3)] [] h
  have fx : FX KAc h h := FX.rfl
  have key : ∀ n : Nat, (∀ (l1 : Int32) (l2 : Int64) (s0 : Int32) (s1 : Int64) (hx : HP), Iv P hx → 0 ≤ l1.toInt → l1.toInt ≤ 39 → 0 ≤ s0.toInt → s0.toInt ≤ 8 → FX KAc h hx → (169 : Int) < n → Go l RX1 cX1_tieDecided 5 (g_rm (d + 3) 0 0) "tieDecided" none 117 0 0 (fun _ _ => True) (fun r h' => r = none ∧ Iv P h' ∧ (FX KAc h h')) 0 21 [(0, .ref 57), (1, .int l1), (2, .long l2)] [.int s0, .long s1, .ref 57] hx) ∧ (∀ (l1 : Int32) (l2 : Int64) (l4 : Int32) (hx : HP), Iv P hx → 0 ≤ l1.toInt → l1.toInt ≤ 39 → 0 ≤ l4.toInt → l4.toInt ≤ 40 → FX KAc h hx → (4 * (40 - l4.toInt) + 3 : Int) < n → Go l RX1 cX1_tieDecided 5 (g_rm (d + 3) 0 0) "tieDecided" none 117 0 0 (fun _ _ => True) (fun r h' => r = none ∧ Iv P h' ∧ (FX KAc h h')) 0 28 [(0, .ref 57), (1, .int l1), (2, .long l2), (4, .int l4)] [] hx) ∧ (∀ (l1 : Int32) (l2 : Int64) (l4 : Int32) (hx : HP), Iv P hx → 0 ≤ l1.toInt → l1.toInt ≤ 39 → 0 ≤ l4.toInt → l4.toInt ≤ 39 → FX KAc h hx → (4 * (40 - l4.toInt) + 2 : Int) < n → Go l RX1 cX1_tieDecided 5 (g_rm (d + 3) 0 0) "tieDecided" none 117 0 0 (fun _ _ => True) (fun r h' => r = none ∧ Iv P h' ∧ (FX KAc h h')) 0 63 [(0, .ref 57), (1, .int l1), (2, .long l2), (4, .int l4)] [] hx) := by
    intro n
    induction n with
    | zero => exact ⟨(by intros; omega), (by intros; omega), (by intros; omega)⟩
    | succ n ih =>
      refine ⟨?_, ?_, ?_⟩
      ·
        intro l1 l2 s0 s1 hx hvx l1l l1u s0l s0u fxx hm
        refine go_iload_n (pc := 21) rfl dX1_tieDecided_21 ?_
        refine go_invV (pc := 22) (sl := 0) (s_X1_tieAll_f l (d + 0) hvx s1 s0 (by rw [show (s0 : Int32).toInt = s0.toInt from (ti_rfl s0)]; omega) (by rw [show (s0 : Int32).toInt = s0.toInt from (ti_rfl s0)]; omega) l1) mL_X1_96 iM_X1_tieAll sM_X1_tieAll (hvx.sh rfl) rfl rfl rfl (Nat.le_of_ble_eq_true rfl) (show d + 0 + 2 + 1 ≤ d + 3 by omega) (show 8 + (6 + 11) + 40 * (d + 0 + 2) ≤ 40 * (d + 3) by omega) (g_c0 hvx.ln) (Nat.le_of_ble_eq_true rfl) dX1_tieDecided_22 ?_
        intro r h1 hq _
        obtain ⟨rfl, hv1, f2⟩ := hq
        have fx1 : FX KAc h h1 := FX.tr fxx f2
        refine go_iconst (pc := 25) (v := 0) (by decide) dX1_tieDecided_25 ?_
        refine go_istore (pc := 26) (Nat.le_of_ble_eq_true rfl) dX1_tieDecided_26 (go_lv (lv2 := [(0, .ref 57), (1, .int l1), (2, .long l2), (4, .int 0)]) rfl ?_)
        have z3 : (0 : Int32).toInt = 0 := (ti_c (v := 0) (a := 0) (by decide))
        exact go_lv rfl (ih.2.1 l1 l2 0 h1 hv1 (by omega) (by omega) (by omega) (by omega) fx1 (by omega))
      ·
        intro l1 l2 l4 hx hvx l1l l1u l4l l4u fxx hm
        refine go_iload (pc := 28) rfl dX1_tieDecided_28 ?_
        refine go_aload_n (pc := 30) rfl dX1_tieDecided_30 ?_
        refine gi_getC (pc := 31) hvx fL_X1_30 rfl (Nat.le_of_ble_eq_true rfl) rfl (by decide) dX1_tieDecided_31 (fun c4 hc4 fc4 => ?_)
        refine gi_get (pc := 34) (lo := 0) (hi := 40) hvx fL_X1_62 (by rcases hc4 with rfl | rfl <;> rfl) (Nat.le_of_ble_eq_true rfl) rfl (by rcases hc4 with rfl | rfl <;> rfl) dX1_tieDecided_34 (fun v5 v5l v5u v5w => ?_)
        refine gf_icmp_ge (pc := 37) (tgt := 69) (ti_rfl l4) (ti_rfl v5) (by decide) dX1_tieDecided_37 (fun q6 => ?_) (fun q6 => ?_)
        ·
          exact gi_vret (pc := 69) ⟨rfl, hvx, fxx⟩ hvx dX1_tieDecided_69
        ·
          refine go_lload_n (pc := 40) rfl dX1_tieDecided_40 ?_
          refine go_iload (pc := 41) rfl dX1_tieDecided_41 ?_
          refine go_invS (pc := 43) (sl := 0) (s_X7_has_f l (d + 1) hvx l2 l4) mL_X1_56 iM_X7_has rfl rfl (Nat.le_of_ble_eq_true rfl) (show d + 1 + 1 + 1 ≤ d + 3 by omega) (show 8 + (3 + 11) + 40 * (d + 1 + 1) ≤ 40 * (d + 3) by omega) (g_c0 hvx.ln) (Nat.le_of_ble_eq_true rfl) dX1_tieDecided_43 ?_
          intro r h7 hq _
          obtain ⟨v9, rfl, v9l, v9u, rfl, f8⟩ := hq
          refine gf_if_eq (pc := 46) (tgt := 63) (ti_rfl v9) (by decide) dX1_tieDecided_46 (fun q10 => ?_) (fun q10 => ?_)
          ·
            exact go_lv rfl (ih.2.2 l1 l2 l4 hx hvx (by omega) (by omega) (by omega) (by omega) fxx (by omega))
          ·
            refine go_aload_n (pc := 49) rfl dX1_tieDecided_49 ?_
            refine gi_getF (pc := 50) (q := 60) hvx fL_X1_18 rfl (Nat.le_of_ble_eq_true rfl) rfl (hvx.rf (by decide)) dX1_tieDecided_50 ?_
            refine go_iload (pc := 53) rfl dX1_tieDecided_53 ?_
            refine go_dup2 (pc := 55) rfl rfl dX1_tieDecided_55 ?_
            refine gi_lald (pc := 56) (len := 40) hvx (ti_rfl l4) rfl (by omega) (by omega) dX1_tieDecided_56 (fun v11 v11w => ?_)
            refine go_iload_n (pc := 57) rfl dX1_tieDecided_57 ?_
            refine go_invS (pc := 58) (sl := 0) (s_X7_bit_f l (d + 1) hvx l1) mL_X1_79 iM_X7_bit rfl rfl (Nat.le_of_ble_eq_true rfl) (show d + 1 + 1 + 1 ≤ d + 3 by omega) (show 8 + (1 + 11) + 40 * (d + 1 + 1) ≤ 40 * (d + 3) by omega) (g_c0 hvx.ln) (Nat.le_of_ble_eq_true rfl) dX1_tieDecided_58 ?_
            intro r h12 hq _
            obtain ⟨v14, rfl, rfl, f13⟩ := hq
            refine gu_lor (pc := 61) dX1_tieDecided_61 (fun v15 => ?_)
            refine gi_last (pc := 62) (len := 40) hvx (ti_rfl l4) rfl (by omega) (by omega) dX1_tieDecided_62 (fun h16 hv16 hv16e => ?_)
            have fx16 : FX KAc h h16 := FX.pL fxx hv16e (by unfold KAc; omega)
            exact go_lv rfl (ih.2.2 l1 l2 l4 h16 hv16 (by omega) (by omega) (by omega) (by omega) fx16 (by omega))
      ·
        intro l1 l2 l4 hx hvx l1l l1u l4l l4u fxx hm
        refine gf_iinc (pc := 63) (Nat.le_of_ble_eq_true rfl) rfl (ti_rfl l4) (ti_c (by decide)) (by omega) (by omega) dX1_tieDecided_63 (fun v17 e18 => ?_)
        refine go_lv (lv2 := [(0, .ref 57), (1, .int l1), (2, .long l2), (4, .int v17)]) rfl ?_
        refine go_goto (pc := 66) (tgt := 28) (by decide) dX1_tieDecided_66 ?_
        have z19 : (v17 : Int32).toInt = (l4.toInt + 1) := e18
        exact go_lv rfl (ih.2.1 l1 l2 v17 hx hvx (by omega) (by omega) (by omega) (by omega) fxx (by omega))
  refine go_aload_n (pc := 0) rfl dX1_tieDecided_0 ?_
  refine go_lload_n (pc := 1) rfl dX1_tieDecided_1 ?_
  refine go_aload_n (pc := 2) rfl dX1_tieDecided_2 ?_
  refine gi_getC (pc := 3) hv fL_X1_30 rfl (Nat.le_of_ble_eq_true rfl) rfl (by decide) dX1_tieDecided_3 (fun c20 hc20 fc20 => ?_)
  refine gi_getF (pc := 6) (q := c20 + 2) hv fL_X1_100 (by rcases hc20 with rfl | rfl <;> rfl) (Nat.le_of_ble_eq_true rfl) rfl (by rcases hc20 with rfl | rfl <;> exact hv.rf (by decide)) dX1_tieDecided_6 ?_
  refine go_iload_n (pc := 9) rfl dX1_tieDecided_9 ?_
  refine gi_iald (pc := 10) (lo := 0) (hi := 5) (len := 40) hv (ti_rfl a2) (by rcases hc20 with rfl | rfl <;> rfl) (by omega) (by omega) (fun _ => by rcases hc20 with rfl | rfl <;> rfl) dX1_tieDecided_10 (fun v21 v21l v21u v21w => ?_)
  refine go_iconst (pc := 11) (v := 1) (by decide) dX1_tieDecided_11 ?_
  refine gf_icmp_ne (pc := 12) (tgt := 20) (ti_rfl v21) (ti_c (v := 1) (a := 1) (by decide)) (by decide) dX1_tieDecided_12 (fun q22 => ?_) (fun q22 => ?_)
  ·
    refine go_iconst (pc := 20) (v := 0) (by decide) dX1_tieDecided_20 ?_
    have z23 : (0 : Int32).toInt = 0 := (ti_c (v := 0) (a := 0) (by decide))
    exact go_lv rfl ((key 182).1 a2 a3 0 a3 h hv (by omega) (by omega) (by omega) (by omega) fx (by omega))
  ·
    refine go_bipush (pc := 15) (v := 8) (by decide) dX1_tieDecided_15 ?_
    refine go_goto (pc := 17) (tgt := 21) (by decide) dX1_tieDecided_17 ?_
    have z24 : (8 : Int32).toInt = 8 := (ti_c (v := 8) (a := 8) (by decide))
    exact go_lv rfl ((key 182).1 a2 a3 8 a3 h hv (by omega) (by omega) (by omega) (by omega) fx (by omega))
set_option maxHeartbeats 4000000 in
set_option maxRecDepth 100000 in
theorem s_X1_tieByWay_f (l : Launch) (d : Nat) {P : PP} {h : HP} (hv : Iv P h)  : Mt l yX1_tieByWay cX1_tieByWay 2 none (d + 4) [.ref 57] h 0 0 (fun r h' => r = none ∧ Iv P h' ∧ (FX KAc h h')) := by
  refine Mt_iv hv (by decide) (Nat.le_of_ble_eq_true rfl) ?_
  show Go l RX1 cX1_tieByWay 2 (g_rm (d + 4) 0 0) "tieByWay" none 117 0 0 (fun _ _ => True) (fun r h' => r = none ∧ Iv P h' ∧ (FX KAc h h')) 0 0 [(0, .ref 57)] [] h
  have fx : FX KAc h h := FX.rfl
  have key : ∀ n : Nat, (∀ (l1 : Int32) (hx : HP), Iv P hx → 0 ≤ l1.toInt → l1.toInt ≤ 40 → FX KAc h hx → (4 * (40 - l1.toInt) + 24 : Int) < n → Go l RX1 cX1_tieByWay 2 (g_rm (d + 4) 0 0) "tieByWay" none 117 0 0 (fun _ _ => True) (fun r h' => r = none ∧ Iv P h' ∧ (FX KAc h h')) 0 6 [(0, .ref 57), (1, .int l1)] [] hx) ∧ (∀ (l1 : Int32) (hx : HP), Iv P hx → 0 ≤ l1.toInt → l1.toInt ≤ 39 → FX KAc h hx → (4 * (40 - l1.toInt) + 23 : Int) < n → Go l RX1 cX1_tieByWay 2 (g_rm (d + 4) 0 0) "tieByWay" none 117 0 0 (fun _ _ => True) (fun r h' => r = none ∧ Iv P h' ∧ (FX KAc h h')) 0 62 [(0, .ref 57), (1, .int l1)] [] hx) ∧ (∀ (l1 : Int32) (hx : HP), Iv P hx → 0 ≤ l1.toInt → l1.toInt ≤ 5 → FX KAc h hx → (3 * (5 - l1.toInt) + 2 : Int) < n → Go l RX1 cX1_tieByWay 2 (g_rm (d + 4) 0 0) "tieByWay" none 117 0 0 (fun _ _ => True) (fun r h' => r = none ∧ Iv P h' ∧ (FX KAc h h')) 0 70 [(0, .ref 57), (1, .int l1)] [] hx) := by
    intro n
    induction n with
    | zero => exact ⟨(by intros; omega), (by intros; omega), (by intros; omega)⟩
    | succ n ih =>
      refine ⟨?_, ?_, ?_⟩
      ·
        intro l1 hx hvx l1l l1u fxx hm
        refine go_iload_n (pc := 6) rfl dX1_tieByWay_6 ?_
        refine go_aload_n (pc := 7) rfl dX1_tieByWay_7 ?_
        refine gi_getC (pc := 8) hvx fL_X1_30 rfl (Nat.le_of_ble_eq_true rfl) rfl (by decide) dX1_tieByWay_8 (fun c1 hc1 fc1 => ?_)
        refine gi_get (pc := 11) (lo := 0) (hi := 40) hvx fL_X1_62 (by rcases hc1 with rfl | rfl <;> rfl) (Nat.le_of_ble_eq_true rfl) rfl (by rcases hc1 with rfl | rfl <;> rfl) dX1_tieByWay_11 (fun v2 v2l v2u v2w => ?_)
        refine gf_icmp_ge (pc := 14) (tgt := 68) (ti_rfl l1) (ti_rfl v2) (by decide) dX1_tieByWay_14 (fun q3 => ?_) (fun q3 => ?_)
        ·
          refine go_iconst (pc := 68) (v := 0) (by decide) dX1_tieByWay_68 ?_
          refine go_istore_n (pc := 69) (Nat.le_of_ble_eq_true rfl) dX1_tieByWay_69 (go_lv (lv2 := [(0, .ref 57), (1, .int 0)]) rfl ?_)
          have z4 : (0 : Int32).toInt = 0 := (ti_c (v := 0) (a := 0) (by decide))
          exact go_lv rfl (ih.2.2 0 hx hvx (by omega) (by omega) fxx (by omega))
        ·
          refine go_aload_n (pc := 17) rfl dX1_tieByWay_17 ?_
          refine gi_getC (pc := 18) hvx fL_X1_30 rfl (Nat.le_of_ble_eq_true rfl) rfl (by decide) dX1_tieByWay_18 (fun c5 hc5 fc5 => ?_)
          refine go_iload_n (pc := 21) rfl dX1_tieByWay_21 ?_
          refine go_invV (pc := 22) (sl := 0) (s_X0_decides_f l (d + 1) hvx c5 hc5 l1 (by rw [show (l1 : Int32).toInt = l1.toInt from (ti_rfl l1)]; omega) (by rw [show (l1 : Int32).toInt = l1.toInt from (ti_rfl l1)]; omega)) mL_X1_72 iM_X0_decides sM_X0_decides (hvx.sh (by rcases hc5 with rfl | rfl <;> rfl)) rfl rfl rfl (Nat.le_of_ble_eq_true rfl) (show d + 1 + 2 + 1 ≤ d + 4 by omega) (show 8 + (2 + 11) + 40 * (d + 1 + 2) ≤ 40 * (d + 4) by omega) (g_c0 hvx.ln) (Nat.le_of_ble_eq_true rfl) dX1_tieByWay_22 ?_
          intro r h6 hq _
          obtain ⟨v8, rfl, v8l, v8u, rfl, f7⟩ := hq
          refine gf_if_eq (pc := 25) (tgt := 62) (ti_rfl v8) (by decide) dX1_tieByWay_25 (fun q9 => ?_) (fun q9 => ?_)
          ·
            exact go_lv rfl (ih.2.1 l1 hx hvx (by omega) (by omega) fxx (by omega))
          ·
            refine go_aload_n (pc := 28) rfl dX1_tieByWay_28 ?_
            refine go_iload_n (pc := 29) rfl dX1_tieByWay_29 ?_
            refine go_aload_n (pc := 30) rfl dX1_tieByWay_30 ?_
            refine gi_getF (pc := 31) (q := 63) hvx fL_X1_27 rfl (Nat.le_of_ble_eq_true rfl) rfl (hvx.rf (by decide)) dX1_tieByWay_31 ?_
            refine go_aload_n (pc := 34) rfl dX1_tieByWay_34 ?_
            refine gi_getC (pc := 35) hvx fL_X1_30 rfl (Nat.le_of_ble_eq_true rfl) rfl (by decide) dX1_tieByWay_35 (fun c10 hc10 fc10 => ?_)
            refine gi_getF (pc := 38) (q := c10 + 12) hvx fL_X1_68 (by rcases hc10 with rfl | rfl <;> rfl) (Nat.le_of_ble_eq_true rfl) rfl (by rcases hc10 with rfl | rfl <;> exact hvx.rf (by decide)) dX1_tieByWay_38 ?_
            refine go_iload_n (pc := 41) rfl dX1_tieByWay_41 ?_
            refine gi_iald (pc := 42) (lo := 0) (hi := 44) (len := 40) hvx (ti_rfl l1) (by rcases hc10 with rfl | rfl <;> rfl) (by omega) (by omega) (fun _ => by rcases hc10 with rfl | rfl <;> rfl) dX1_tieByWay_42 (fun v11 v11l v11u v11w => ?_)
            refine gi_lald (pc := 43) (len := 45) hvx (ti_rfl v11) rfl (by omega) (by omega) dX1_tieByWay_43 (fun v12 v12w => ?_)
            refine go_aload_n (pc := 44) rfl dX1_tieByWay_44 ?_
            refine gi_getF (pc := 45) (q := 63) hvx fL_X1_27 rfl (Nat.le_of_ble_eq_true rfl) rfl (hvx.rf (by decide)) dX1_tieByWay_45 ?_
            refine go_aload_n (pc := 48) rfl dX1_tieByWay_48 ?_
            refine gi_getC (pc := 49) hvx fL_X1_30 rfl (Nat.le_of_ble_eq_true rfl) rfl (by decide) dX1_tieByWay_49 (fun c13 hc13 fc13 => ?_)
            refine gi_getF (pc := 52) (q := c13 + 13) hvx fL_X1_76 (by rcases hc13 with rfl | rfl <;> rfl) (Nat.le_of_ble_eq_true rfl) rfl (by rcases hc13 with rfl | rfl <;> exact hvx.rf (by decide)) dX1_tieByWay_52 ?_
            refine go_iload_n (pc := 55) rfl dX1_tieByWay_55 ?_
            refine gi_iald (pc := 56) (lo := 0) (hi := 44) (len := 40) hvx (ti_rfl l1) (by rcases hc13 with rfl | rfl <;> rfl) (by omega) (by omega) (fun _ => by rcases hc13 with rfl | rfl <;> rfl) dX1_tieByWay_56 (fun v14 v14l v14u v14w => ?_)
            refine gi_lald (pc := 57) (len := 45) hvx (ti_rfl v14) rfl (by omega) (by omega) dX1_tieByWay_57 (fun v15 v15w => ?_)
            refine gu_lxor (pc := 58) dX1_tieByWay_58 (fun v16 => ?_)
            refine go_invV (pc := 59) (sl := 0) (s_X1_tieDecided_f l (d + 0) hvx l1 (by rw [show (l1 : Int32).toInt = l1.toInt from (ti_rfl l1)]; omega) (by rw [show (l1 : Int32).toInt = l1.toInt from (ti_rfl l1)]; omega) v16) mL_X1_86 iM_X1_tieDecided sM_X1_tieDecided (hvx.sh rfl) rfl rfl rfl (Nat.le_of_ble_eq_true rfl) (show d + 0 + 3 + 1 ≤ d + 4 by omega) (show 8 + (5 + 11) + 40 * (d + 0 + 3) ≤ 40 * (d + 4) by omega) (g_c0 hvx.ln) (Nat.le_of_ble_eq_true rfl) dX1_tieByWay_59 ?_
            intro r h17 hq _
            obtain ⟨rfl, hv17, f18⟩ := hq
            have fx17 : FX KAc h h17 := FX.tr fxx f18
            exact go_lv rfl (ih.2.1 l1 h17 hv17 (by omega) (by omega) fx17 (by omega))
      ·
        intro l1 hx hvx l1l l1u fxx hm
        refine gf_iinc (pc := 62) (Nat.le_of_ble_eq_true rfl) rfl (ti_rfl l1) (ti_c (by decide)) (by omega) (by omega) dX1_tieByWay_62 (fun v19 e20 => ?_)
        refine go_lv (lv2 := [(0, .ref 57), (1, .int v19)]) rfl ?_
        refine go_goto (pc := 65) (tgt := 6) (by decide) dX1_tieByWay_65 ?_
        have z21 : (v19 : Int32).toInt = (l1.toInt + 1) := e20
        exact go_lv rfl (ih.1 v19 hx hvx (by omega) (by omega) fxx (by omega))
      ·
        intro l1 hx hvx l1l l1u fxx hm
        refine go_iload_n (pc := 70) rfl dX1_tieByWay_70 ?_
        refine go_aload_n (pc := 71) rfl dX1_tieByWay_71 ?_
        refine gi_getC (pc := 72) hvx fL_X1_30 rfl (Nat.le_of_ble_eq_true rfl) rfl (by decide) dX1_tieByWay_72 (fun c22 hc22 fc22 => ?_)
        refine gi_get (pc := 75) (lo := 0) (hi := 5) hvx fL_X1_90 (by rcases hc22 with rfl | rfl <;> rfl) (Nat.le_of_ble_eq_true rfl) rfl (by rcases hc22 with rfl | rfl <;> rfl) dX1_tieByWay_75 (fun v23 v23l v23u v23w => ?_)
        refine gf_icmp_ge (pc := 78) (tgt := 122) (ti_rfl l1) (ti_rfl v23) (by decide) dX1_tieByWay_78 (fun q24 => ?_) (fun q24 => ?_)
        ·
          exact gi_vret (pc := 122) ⟨rfl, hvx, fxx⟩ hvx dX1_tieByWay_122
        ·
          refine go_aload_n (pc := 81) rfl dX1_tieByWay_81 ?_
          refine gi_getF (pc := 82) (q := 61) hvx fL_X1_21 rfl (Nat.le_of_ble_eq_true rfl) rfl (hvx.rf (by decide)) dX1_tieByWay_82 ?_
          refine go_iload_n (pc := 85) rfl dX1_tieByWay_85 ?_
          refine go_aload_n (pc := 86) rfl dX1_tieByWay_86 ?_
          refine gi_getF (pc := 87) (q := 63) hvx fL_X1_27 rfl (Nat.le_of_ble_eq_true rfl) rfl (hvx.rf (by decide)) dX1_tieByWay_87 ?_
          refine go_aload_n (pc := 90) rfl dX1_tieByWay_90 ?_
          refine gi_getC (pc := 91) hvx fL_X1_30 rfl (Nat.le_of_ble_eq_true rfl) rfl (by decide) dX1_tieByWay_91 (fun c25 hc25 fc25 => ?_)
          refine gi_getF (pc := 94) (q := c25 + 1) hvx fL_X1_93 (by rcases hc25 with rfl | rfl <;> rfl) (Nat.le_of_ble_eq_true rfl) rfl (by rcases hc25 with rfl | rfl <;> exact hvx.rf (by decide)) dX1_tieByWay_94 ?_
          refine go_iload_n (pc := 97) rfl dX1_tieByWay_97 ?_
          refine gi_iald (pc := 98) (lo := 0) (hi := 44) (len := 5) hvx (ti_rfl l1) (by rcases hc25 with rfl | rfl <;> rfl) (by omega) (by omega) (fun _ => by rcases hc25 with rfl | rfl <;> rfl) dX1_tieByWay_98 (fun v26 v26l v26u v26w => ?_)
          refine gi_lald (pc := 99) (len := 45) hvx (ti_rfl v26) rfl (by omega) (by omega) dX1_tieByWay_99 (fun v27 v27w => ?_)
          refine gi_last (pc := 100) (len := 5) hvx (ti_rfl l1) rfl (by omega) (by omega) dX1_tieByWay_100 (fun h28 hv28 hv28e => ?_)
          have fx28 : FX KAc h h28 := FX.pL fxx hv28e (by unfold KAc; omega)
          refine go_aload_n (pc := 101) rfl dX1_tieByWay_101 ?_
          refine go_aload_n (pc := 102) rfl dX1_tieByWay_102 ?_
          refine gi_getF (pc := 103) (q := 61) hv28 fL_X1_21 rfl (Nat.le_of_ble_eq_true rfl) rfl (hv28.rf (by decide)) dX1_tieByWay_103 ?_
          refine go_iload_n (pc := 106) rfl dX1_tieByWay_106 ?_
          refine gi_lald (pc := 107) (len := 5) hv28 (ti_rfl l1) rfl (by omega) (by omega) dX1_tieByWay_107 (fun v29 v29w => ?_)
          refine go_iconst (pc := 108) (v := 0) (by decide) dX1_tieByWay_108 ?_
          refine go_bipush (pc := 109) (v := 40) (by decide) dX1_tieByWay_109 ?_
          refine go_iload_n (pc := 111) rfl dX1_tieByWay_111 ?_
          refine gf_iadd (pc := 112) (ti_c (v := 40) (a := 40) (by decide)) (ti_rfl l1) (by omega) (by omega) dX1_tieByWay_112 (fun v30 e31 => ?_)
          refine go_invV (pc := 113) (sl := 0) (s_X1_tieAll_f l (d + 1) hv28 v29 0 (by rw [show (0 : Int32).toInt = 0 from (ti_c (v := 0) (a := 0) (by decide))]; omega) (by rw [show (0 : Int32).toInt = 0 from (ti_c (v := 0) (a := 0) (by decide))]; omega) v30) mL_X1_96 iM_X1_tieAll sM_X1_tieAll (hv28.sh rfl) rfl rfl rfl (Nat.le_of_ble_eq_true rfl) (show d + 1 + 2 + 1 ≤ d + 4 by omega) (show 8 + (6 + 11) + 40 * (d + 1 + 2) ≤ 40 * (d + 4) by omega) (g_c0 hv28.ln) (Nat.le_of_ble_eq_true rfl) dX1_tieByWay_113 ?_
          intro r h32 hq _
          obtain ⟨rfl, hv32, f33⟩ := hq
          try rw [show (0 : Int32).toInt = 0 from (ti_c (v := 0) (a := 0) (by decide))] at f33
          try rw [show (v30 : Int32).toInt = (40 + l1.toInt) from e31] at f33
          have fx32 : FX KAc h h32 := FX.tr fx28 f33
          refine gf_iinc (pc := 116) (Nat.le_of_ble_eq_true rfl) rfl (ti_rfl l1) (ti_c (by decide)) (by omega) (by omega) dX1_tieByWay_116 (fun v34 e35 => ?_)
          refine go_lv (lv2 := [(0, .ref 57), (1, .int v34)]) rfl ?_
          refine go_goto (pc := 119) (tgt := 70) (by decide) dX1_tieByWay_119 ?_
          have z36 : (v34 : Int32).toInt = (l1.toInt + 1) := e35
          exact go_lv rfl (ih.2.2 v34 h32 hv32 (by omega) (by omega) fx32 (by omega))
  refine go_aload_n (pc := 0) rfl dX1_tieByWay_0 ?_
  refine go_invV (pc := 1) (sl := 0) (s_X1_findCertain_f l (d + 0) hv ) mL_X1_83 iM_X1_findCertain sM_X1_findCertain (hv.sh rfl) rfl rfl rfl (Nat.le_of_ble_eq_true rfl) (show d + 0 + 3 + 1 ≤ d + 4 by omega) (show 8 + (6 + 11) + 40 * (d + 0 + 3) ≤ 40 * (d + 4) by omega) (g_c0 hv.ln) (Nat.le_of_ble_eq_true rfl) dX1_tieByWay_1 ?_
  intro r h37 hq _
  obtain ⟨rfl, hv37, f38⟩ := hq
  have fx37 : FX KAc h h37 := FX.tr fx f38
  refine go_iconst (pc := 4) (v := 0) (by decide) dX1_tieByWay_4 ?_
  refine go_istore_n (pc := 5) (Nat.le_of_ble_eq_true rfl) dX1_tieByWay_5 (go_lv (lv2 := [(0, .ref 57), (1, .int 0)]) rfl ?_)
  have z39 : (0 : Int32).toInt = 0 := (ti_c (v := 0) (a := 0) (by decide))
  exact go_lv rfl ((key 202).1 0 h37 hv37 (by omega) (by omega) fx37 (by omega))
set_option maxHeartbeats 4000000 in
set_option maxRecDepth 100000 in
theorem s_X1_addTellers_f (l : Launch) (d : Nat) {P : PP} {h : HP} (hv : Iv P h) (a2 : Int32) (a2l : 0 ≤ a2.toInt) (a2u : a2.toInt ≤ 44) (a3 : Int64) : Mt l yX1_addTellers cX1_addTellers 6 (some .boolean) (d + 1) [.ref 57, .int a2, .long a3] h 0 0 (fun r h' => ∃ v : Int32, r = some (.int v) ∧ 0 ≤ v.toInt ∧ v.toInt ≤ 1 ∧ Iv P h' ∧ (FX KAc h h')) := by
  refine Mt_iv hv (by decide) (Nat.le_of_ble_eq_true rfl) ?_
  show Go l RX1 cX1_addTellers 6 (g_rm (d + 1) 0 0) "addTellers" (some .boolean) 117 0 0 (fun _ _ => True) (fun r h' => ∃ v : Int32, r = some (.int v) ∧ 0 ≤ v.toInt ∧ v.toInt ≤ 1 ∧ Iv P h' ∧ (FX KAc h h')) 0 0 [(0, .ref 57), (1, .int a2), (2, .long a3)] [] h
  have fx : FX KAc h h := FX.rfl
  have key : ∀ n : Nat, (∀ (s0 : Int32) (hx : HP), Iv P hx → 0 ≤ s0.toInt → s0.toInt ≤ 1 → FX KAc h hx → (1 : Int) < n → Go l RX1 cX1_addTellers 6 (g_rm (d + 1) 0 0) "addTellers" (some .boolean) 117 0 0 (fun _ _ => True) (fun r h' => ∃ v : Int32, r = some (.int v) ∧ 0 ≤ v.toInt ∧ v.toInt ≤ 1 ∧ Iv P h' ∧ (FX KAc h h')) 0 35 [] [.int s0] hx) := by
    intro n
    induction n with
    | zero => exact (by intros; omega)
    | succ n ih =>
      refine ?_
      ·
        intro s0 hx hvx s0l s0u fxx hm
        exact gi_zret (pc := 35) (ti_rfl s0) (by omega) (by omega) ⟨_, rfl, (by rw [show (s0 : Int32).toInt = s0.toInt from (ti_rfl s0)]; omega), (by rw [show (s0 : Int32).toInt = s0.toInt from (ti_rfl s0)]; omega), hvx, fxx⟩ hvx dX1_addTellers_35
  refine go_aload_n (pc := 0) rfl dX1_addTellers_0 ?_
  refine gi_getF (pc := 1) (q := 62) hv fL_X1_24 rfl (Nat.le_of_ble_eq_true rfl) rfl (hv.rf (by decide)) dX1_addTellers_1 ?_
  refine go_iload_n (pc := 4) rfl dX1_addTellers_4 ?_
  refine gi_lald (pc := 5) (len := 45) hv (ti_rfl a2) rfl (by omega) (by omega) dX1_addTellers_5 (fun v1 v1w => ?_)
  refine go_lstore (pc := 6) (Nat.le_of_ble_eq_true rfl) dX1_addTellers_6 (go_lv (lv2 := [(0, .ref 57), (1, .int a2), (2, .long a3), (4, .long v1)]) rfl ?_)
  refine go_aload_n (pc := 8) rfl dX1_addTellers_8 ?_
  refine gi_getF (pc := 9) (q := 62) hv fL_X1_24 rfl (Nat.le_of_ble_eq_true rfl) rfl (hv.rf (by decide)) dX1_addTellers_9 ?_
  refine go_iload_n (pc := 12) rfl dX1_addTellers_12 ?_
  refine go_lload (pc := 13) rfl dX1_addTellers_13 ?_
  refine go_lload_n (pc := 15) rfl dX1_addTellers_15 ?_
  refine gu_lor (pc := 16) dX1_addTellers_16 (fun v2 => ?_)
  refine gi_last (pc := 17) (len := 45) hv (ti_rfl a2) rfl (by omega) (by omega) dX1_addTellers_17 (fun h3 hv3 hv3e => ?_)
  have fx3 : FX KAc h h3 := FX.pL fx hv3e (by unfold KAc; omega)
  refine go_aload_n (pc := 18) rfl dX1_addTellers_18 ?_
  refine gi_getF (pc := 19) (q := 62) hv3 fL_X1_24 rfl (Nat.le_of_ble_eq_true rfl) rfl (hv3.rf (by decide)) dX1_addTellers_19 ?_
  refine go_iload_n (pc := 22) rfl dX1_addTellers_22 ?_
  refine gi_lald (pc := 23) (len := 45) hv3 (ti_rfl a2) rfl (by omega) (by omega) dX1_addTellers_23 (fun v4 v4w => ?_)
  refine go_lload (pc := 24) rfl dX1_addTellers_24 ?_
  refine gu_lcmp (pc := 26) dX1_addTellers_26 (fun v5 => ?_)
  refine gf_if_eq (pc := 27) (tgt := 34) (ti_rfl v5) (by decide) dX1_addTellers_27 (fun q6 => ?_) (fun q6 => ?_)
  ·
    refine go_iconst (pc := 34) (v := 0) (by decide) dX1_addTellers_34 ?_
    have z7 : (0 : Int32).toInt = 0 := (ti_c (v := 0) (a := 0) (by decide))
    exact go_lv rfl ((key 14) 0 h3 hv3 (by omega) (by omega) fx3 (by omega))
  ·
    refine go_iconst (pc := 30) (v := 1) (by decide) dX1_addTellers_30 ?_
    refine go_goto (pc := 31) (tgt := 35) (by decide) dX1_addTellers_31 ?_
    have z8 : (1 : Int32).toInt = 1 := (ti_c (v := 1) (a := 1) (by decide))
    exact go_lv rfl ((key 14) 1 h3 hv3 (by omega) (by omega) fx3 (by omega))
set_option maxHeartbeats 4000000 in
set_option maxRecDepth 100000 in
theorem s_X1_passOn_f (l : Launch) (d : Nat) {P : PP} {h : HP} (hv : Iv P h) (a2 : Int32) (a2l : 0 ≤ a2.toInt) (a2u : a2.toInt ≤ 39) (a3 : Int32) : Mt l yX1_passOn cX1_passOn 5 (some .boolean) (d + 3) [.ref 57, .int a2, .int a3] h 0 0 (fun r h' => ∃ v : Int32, r = some (.int v) ∧ 0 ≤ v.toInt ∧ v.toInt ≤ 1 ∧ Iv P h' ∧ (FX KAc h h')) := by
  refine Mt_iv hv (by decide) (Nat.le_of_ble_eq_true rfl) ?_
  show Go l RX1 cX1_passOn 5 (g_rm (d + 3) 0 0) "passOn" (some .boolean) 117 0 0 (fun _ _ => True) (fun r h' => ∃ v : Int32, r = some (.int v) ∧ 0 ≤ v.toInt ∧ v.toInt ≤ 1 ∧ Iv P h' ∧ (FX KAc h h')) 0 0 [(0, .ref 57), (1, .int a2), (2, .int a3)] [] h
  have fx : FX KAc h h := FX.rfl
  have key : ∀ n : Nat, (∀ (l1 : Int32) (l2 : Int32) (s0 : Int64) (s1 : Int32) (hx : HP), Iv P hx → 0 ≤ l1.toInt → l1.toInt ≤ 39 → 0 ≤ s1.toInt → s1.toInt ≤ 44 → FX KAc h hx → (4 : Int) < n → Go l RX1 cX1_passOn 5 (g_rm (d + 3) 0 0) "passOn" (some .boolean) 117 0 0 (fun _ _ => True) (fun r h' => ∃ v : Int32, r = some (.int v) ∧ 0 ≤ v.toInt ∧ v.toInt ≤ 1 ∧ Iv P h' ∧ (FX KAc h h')) 0 52 [(0, .ref 57), (1, .int l1), (2, .int l2)] [.long s0, .int s1, .ref 57] hx) ∧ (∀ (l1 : Int32) (l2 : Int32) (l3 : Int32) (hx : HP), Iv P hx → 0 ≤ l1.toInt → l1.toInt ≤ 39 → 0 ≤ l3.toInt → l3.toInt ≤ 1 → FX KAc h hx → (3 : Int) < n → Go l RX1 cX1_passOn 5 (g_rm (d + 3) 0 0) "passOn" (some .boolean) 117 0 0 (fun _ _ => True) (fun r h' => ∃ v : Int32, r = some (.int v) ∧ 0 ≤ v.toInt ∧ v.toInt ≤ 1 ∧ Iv P h' ∧ (FX KAc h h')) 0 56 [(0, .ref 57), (1, .int l1), (2, .int l2), (3, .int l3)] [] hx) ∧ (∀ (s0 : Int64) (s1 : Int32) (s3 : Int32) (hx : HP), Iv P hx → 0 ≤ s1.toInt → s1.toInt ≤ 44 → 0 ≤ s3.toInt → s3.toInt ≤ 1 → FX KAc h hx → (2 : Int) < n → Go l RX1 cX1_passOn 5 (g_rm (d + 3) 0 0) "passOn" (some .boolean) 117 0 0 (fun _ _ => True) (fun r h' => ∃ v : Int32, r = some (.int v) ∧ 0 ≤ v.toInt ∧ v.toInt ≤ 1 ∧ Iv P h' ∧ (FX KAc h h')) 0 107 [] [.long s0, .int s1, .ref 57, .int s3] hx) ∧ (∀ (l3 : Int32) (hx : HP), Iv P hx → 0 ≤ l3.toInt → l3.toInt ≤ 1 → FX KAc h hx → (1 : Int) < n → Go l RX1 cX1_passOn 5 (g_rm (d + 3) 0 0) "passOn" (some .boolean) 117 0 0 (fun _ _ => True) (fun r h' => ∃ v : Int32, r = some (.int v) ∧ 0 ≤ v.toInt ∧ v.toInt ≤ 1 ∧ Iv P h' ∧ (FX KAc h h')) 0 112 [(3, .int l3)] [] hx) := by
    intro n
    induction n with
    | zero => exact ⟨(by intros; omega), (by intros; omega), (by intros; omega), (by intros; omega)⟩
    | succ n ih =>
      refine ⟨?_, ?_, ?_, ?_⟩
      ·
        intro l1 l2 s0 s1 hx hvx l1l l1u s1l s1u fxx hm
        refine go_invV (pc := 52) (sl := 0) (s_X1_addTellers_f l (d + 1) hvx s1 (by rw [show (s1 : Int32).toInt = s1.toInt from (ti_rfl s1)]; omega) (by rw [show (s1 : Int32).toInt = s1.toInt from (ti_rfl s1)]; omega) s0) mL_X1_120 iM_X1_addTellers sM_X1_addTellers (hvx.sh rfl) rfl rfl rfl (Nat.le_of_ble_eq_true rfl) (show d + 1 + 1 + 1 ≤ d + 3 by omega) (show 8 + (6 + 11) + 40 * (d + 1 + 1) ≤ 40 * (d + 3) by omega) (g_c0 hvx.ln) (Nat.le_of_ble_eq_true rfl) dX1_passOn_52 ?_
        intro r h1 hq _
        obtain ⟨v3, rfl, v3l, v3u, hv1, f2⟩ := hq
        have fx1 : FX KAc h h1 := FX.tr fxx f2
        refine go_istore_n (pc := 55) (Nat.le_of_ble_eq_true rfl) dX1_passOn_55 (go_lv (lv2 := [(0, .ref 57), (1, .int l1), (2, .int l2), (3, .int v3)]) rfl ?_)
        exact go_lv rfl (ih.2.1 l1 l2 v3 h1 hv1 (by omega) (by omega) (by omega) (by omega) fx1 (by omega))
      ·
        intro l1 l2 l3 hx hvx l1l l1u l3l l3u fxx hm
        refine go_aload_n (pc := 56) rfl dX1_passOn_56 ?_
        refine gi_getC (pc := 57) hvx fL_X1_30 rfl (Nat.le_of_ble_eq_true rfl) rfl (by decide) dX1_passOn_57 (fun c4 hc4 fc4 => ?_)
        refine go_iload_n (pc := 60) rfl dX1_passOn_60 ?_
        refine go_invV (pc := 61) (sl := 0) (s_X0_decides_f l (d + 0) hvx c4 hc4 l1 (by rw [show (l1 : Int32).toInt = l1.toInt from (ti_rfl l1)]; omega) (by rw [show (l1 : Int32).toInt = l1.toInt from (ti_rfl l1)]; omega)) mL_X1_72 iM_X0_decides sM_X0_decides (hvx.sh (by rcases hc4 with rfl | rfl <;> rfl)) rfl rfl rfl (Nat.le_of_ble_eq_true rfl) (show d + 0 + 2 + 1 ≤ d + 3 by omega) (show 8 + (2 + 11) + 40 * (d + 0 + 2) ≤ 40 * (d + 3) by omega) (g_c0 hvx.ln) (Nat.le_of_ble_eq_true rfl) dX1_passOn_61 ?_
        intro r h5 hq _
        obtain ⟨v7, rfl, v7l, v7u, rfl, f6⟩ := hq
        refine gf_if_eq (pc := 64) (tgt := 112) (ti_rfl v7) (by decide) dX1_passOn_64 (fun q8 => ?_) (fun q8 => ?_)
        ·
          exact go_lv rfl (ih.2.2.2 l3 hx hvx (by omega) (by omega) fxx (by omega))
        ·
          refine go_aload_n (pc := 67) rfl dX1_passOn_67 ?_
          refine gi_getC (pc := 68) hvx fL_X1_30 rfl (Nat.le_of_ble_eq_true rfl) rfl (by decide) dX1_passOn_68 (fun c9 hc9 fc9 => ?_)
          refine go_iload_n (pc := 71) rfl dX1_passOn_71 ?_
          refine go_iload_n (pc := 72) rfl dX1_passOn_72 ?_
          refine go_invV (pc := 73) (sl := 0) (s_X0_tellsAside l (d + 0) hvx c9 hc9 l1 (by rw [show (l1 : Int32).toInt = l1.toInt from (ti_rfl l1)]; omega) (by rw [show (l1 : Int32).toInt = l1.toInt from (ti_rfl l1)]; omega) l2) mL_X1_124 iM_X0_tellsAside sM_X0_tellsAside (hvx.sh (by rcases hc9 with rfl | rfl <;> rfl)) rfl rfl rfl (Nat.le_of_ble_eq_true rfl) (show d + 0 + 2 + 1 ≤ d + 3 by omega) (show 8 + (3 + 11) + 40 * (d + 0 + 2) ≤ 40 * (d + 3) by omega) (g_c0 hvx.ln) (Nat.le_of_ble_eq_true rfl) dX1_passOn_73 ?_
          intro r h10 hq _
          obtain ⟨v11, rfl, v11l, v11u, rfl⟩ := hq
          refine go_istore (pc := 76) (Nat.le_of_ble_eq_true rfl) dX1_passOn_76 (go_lv (lv2 := [(0, .ref 57), (1, .int l1), (2, .int l2), (3, .int l3), (4, .int v11)]) rfl ?_)
          refine go_iload_n (pc := 78) rfl dX1_passOn_78 ?_
          refine go_aload_n (pc := 79) rfl dX1_passOn_79 ?_
          refine go_aload_n (pc := 80) rfl dX1_passOn_80 ?_
          refine gi_getC (pc := 81) hvx fL_X1_30 rfl (Nat.le_of_ble_eq_true rfl) rfl (by decide) dX1_passOn_81 (fun c12 hc12 fc12 => ?_)
          refine gi_getF (pc := 84) (q := c12 + 13) hvx fL_X1_76 (by rcases hc12 with rfl | rfl <;> rfl) (Nat.le_of_ble_eq_true rfl) rfl (by rcases hc12 with rfl | rfl <;> exact hvx.rf (by decide)) dX1_passOn_84 ?_
          refine go_iload_n (pc := 87) rfl dX1_passOn_87 ?_
          refine gi_iald (pc := 88) (lo := 0) (hi := 44) (len := 40) hvx (ti_rfl l1) (by rcases hc12 with rfl | rfl <;> rfl) (by omega) (by omega) (fun _ => by rcases hc12 with rfl | rfl <;> rfl) dX1_passOn_88 (fun v13 v13l v13u v13w => ?_)
          refine go_iload (pc := 89) rfl dX1_passOn_89 ?_
          refine gf_if_eq (pc := 91) (tgt := 101) (ti_rfl v11) (by decide) dX1_passOn_91 (fun q14 => ?_) (fun q14 => ?_)
          ·
            refine go_aload_n (pc := 101) rfl dX1_passOn_101 ?_
            refine gi_getF (pc := 102) (q := 62) hvx fL_X1_24 rfl (Nat.le_of_ble_eq_true rfl) rfl (hvx.rf (by decide)) dX1_passOn_102 ?_
            refine go_iload_n (pc := 105) rfl dX1_passOn_105 ?_
            refine gi_lald (pc := 106) (len := 45) hvx (ti_rfl l1) rfl (by omega) (by omega) dX1_passOn_106 (fun v15 v15w => ?_)
            exact go_lv rfl (ih.2.2.1 v15 v13 l3 hx hvx (by omega) (by omega) (by omega) (by omega) fxx (by omega))
          ·
            refine go_iload_n (pc := 94) rfl dX1_passOn_94 ?_
            refine go_invS (pc := 95) (sl := 0) (s_X7_bit_f l (d + 1) hvx l1) mL_X1_79 iM_X7_bit rfl rfl (Nat.le_of_ble_eq_true rfl) (show d + 1 + 1 + 1 ≤ d + 3 by omega) (show 8 + (1 + 11) + 40 * (d + 1 + 1) ≤ 40 * (d + 3) by omega) (g_c0 hvx.ln) (Nat.le_of_ble_eq_true rfl) dX1_passOn_95 ?_
            intro r h16 hq _
            obtain ⟨v18, rfl, rfl, f17⟩ := hq
            refine go_goto (pc := 98) (tgt := 107) (by decide) dX1_passOn_98 ?_
            exact go_lv rfl (ih.2.2.1 v18 v13 l3 hx hvx (by omega) (by omega) (by omega) (by omega) fxx (by omega))
      ·
        intro s0 s1 s3 hx hvx s1l s1u s3l s3u fxx hm
        refine go_invV (pc := 107) (sl := 0) (s_X1_addTellers_f l (d + 1) hvx s1 (by rw [show (s1 : Int32).toInt = s1.toInt from (ti_rfl s1)]; omega) (by rw [show (s1 : Int32).toInt = s1.toInt from (ti_rfl s1)]; omega) s0) mL_X1_120 iM_X1_addTellers sM_X1_addTellers (hvx.sh rfl) rfl rfl rfl (Nat.le_of_ble_eq_true rfl) (show d + 1 + 1 + 1 ≤ d + 3 by omega) (show 8 + (6 + 11) + 40 * (d + 1 + 1) ≤ 40 * (d + 3) by omega) (g_c0 hvx.ln) (Nat.le_of_ble_eq_true rfl) dX1_passOn_107 ?_
        intro r h19 hq _
        obtain ⟨v21, rfl, v21l, v21u, hv19, f20⟩ := hq
        have fx19 : FX KAc h h19 := FX.tr fxx f20
        refine gf_ior (pc := 110) (ti_rfl s3) (ti_rfl v21) (by omega) (by omega) (by omega) (by omega) dX1_passOn_110 (fun v22 v22l v22u => ?_)
        refine go_istore_n (pc := 111) (Nat.le_of_ble_eq_true rfl) dX1_passOn_111 (go_lv (lv2 := [(3, .int v22)]) rfl ?_)
        exact go_lv rfl (ih.2.2.2 v22 h19 hv19 (by omega) (by omega) fx19 (by omega))
      ·
        intro l3 hx hvx l3l l3u fxx hm
        refine go_iload_n (pc := 112) rfl dX1_passOn_112 ?_
        exact gi_zret (pc := 113) (ti_rfl l3) (by omega) (by omega) ⟨_, rfl, (by rw [show (l3 : Int32).toInt = l3.toInt from (ti_rfl l3)]; omega), (by rw [show (l3 : Int32).toInt = l3.toInt from (ti_rfl l3)]; omega), hvx, fxx⟩ hvx dX1_passOn_113
  refine go_iconst (pc := 0) (v := 0) (by decide) dX1_passOn_0 ?_
  refine go_istore_n (pc := 1) (Nat.le_of_ble_eq_true rfl) dX1_passOn_1 (go_lv (lv2 := [(0, .ref 57), (1, .int a2), (2, .int a3), (3, .int 0)]) rfl ?_)
  refine go_aload_n (pc := 2) rfl dX1_passOn_2 ?_
  refine gi_getC (pc := 3) hv fL_X1_30 rfl (Nat.le_of_ble_eq_true rfl) rfl (by decide) dX1_passOn_3 (fun c23 hc23 fc23 => ?_)
  refine go_iload_n (pc := 6) rfl dX1_passOn_6 ?_
  refine go_invV (pc := 7) (sl := 0) (s_X0_goesStraight_f l (d + 0) hv c23 hc23 a2 (by rw [show (a2 : Int32).toInt = a2.toInt from (ti_rfl a2)]; omega) (by rw [show (a2 : Int32).toInt = a2.toInt from (ti_rfl a2)]; omega)) mL_X1_114 iM_X0_goesStraight sM_X0_goesStraight (hv.sh (by rcases hc23 with rfl | rfl <;> rfl)) rfl rfl rfl (Nat.le_of_ble_eq_true rfl) (show d + 0 + 2 + 1 ≤ d + 3 by omega) (show 8 + (2 + 11) + 40 * (d + 0 + 2) ≤ 40 * (d + 3) by omega) (g_c0 hv.ln) (Nat.le_of_ble_eq_true rfl) dX1_passOn_7 ?_
  intro r h24 hq _
  obtain ⟨v26, rfl, v26l, v26u, rfl, f25⟩ := hq
  refine gf_if_eq (pc := 10) (tgt := 56) (ti_rfl v26) (by decide) dX1_passOn_10 (fun q27 => ?_) (fun q27 => ?_)
  ·
    have z28 : (0 : Int32).toInt = 0 := (ti_c (v := 0) (a := 0) (by decide))
    exact go_lv rfl ((key 17).2.1 a2 a3 0 h hv (by omega) (by omega) (by omega) (by omega) fx (by omega))
  ·
    refine go_aload_n (pc := 13) rfl dX1_passOn_13 ?_
    refine gi_getC (pc := 14) hv fL_X1_30 rfl (Nat.le_of_ble_eq_true rfl) rfl (by decide) dX1_passOn_14 (fun c29 hc29 fc29 => ?_)
    refine go_iload_n (pc := 17) rfl dX1_passOn_17 ?_
    refine go_iload_n (pc := 18) rfl dX1_passOn_18 ?_
    refine go_invV (pc := 19) (sl := 0) (s_X0_tellsStraight l (d + 0) hv c29 hc29 a2 (by rw [show (a2 : Int32).toInt = a2.toInt from (ti_rfl a2)]; omega) (by rw [show (a2 : Int32).toInt = a2.toInt from (ti_rfl a2)]; omega) a3) mL_X1_117 iM_X0_tellsStraight sM_X0_tellsStraight (hv.sh (by rcases hc29 with rfl | rfl <;> rfl)) rfl rfl rfl (Nat.le_of_ble_eq_true rfl) (show d + 0 + 2 + 1 ≤ d + 3 by omega) (show 8 + (3 + 11) + 40 * (d + 0 + 2) ≤ 40 * (d + 3) by omega) (g_c0 hv.ln) (Nat.le_of_ble_eq_true rfl) dX1_passOn_19 ?_
    intro r h30 hq _
    obtain ⟨v31, rfl, v31l, v31u, rfl⟩ := hq
    refine go_istore (pc := 22) (Nat.le_of_ble_eq_true rfl) dX1_passOn_22 (go_lv (lv2 := [(0, .ref 57), (1, .int a2), (2, .int a3), (3, .int 0), (4, .int v31)]) rfl ?_)
    refine go_aload_n (pc := 24) rfl dX1_passOn_24 ?_
    refine go_aload_n (pc := 25) rfl dX1_passOn_25 ?_
    refine gi_getC (pc := 26) hv fL_X1_30 rfl (Nat.le_of_ble_eq_true rfl) rfl (by decide) dX1_passOn_26 (fun c32 hc32 fc32 => ?_)
    refine gi_getF (pc := 29) (q := c32 + 12) hv fL_X1_68 (by rcases hc32 with rfl | rfl <;> rfl) (Nat.le_of_ble_eq_true rfl) rfl (by rcases hc32 with rfl | rfl <;> exact hv.rf (by decide)) dX1_passOn_29 ?_
    refine go_iload_n (pc := 32) rfl dX1_passOn_32 ?_
    refine gi_iald (pc := 33) (lo := 0) (hi := 44) (len := 40) hv (ti_rfl a2) (by rcases hc32 with rfl | rfl <;> rfl) (by omega) (by omega) (fun _ => by rcases hc32 with rfl | rfl <;> rfl) dX1_passOn_33 (fun v33 v33l v33u v33w => ?_)
    refine go_iload (pc := 34) rfl dX1_passOn_34 ?_
    refine gf_if_eq (pc := 36) (tgt := 46) (ti_rfl v31) (by decide) dX1_passOn_36 (fun q34 => ?_) (fun q34 => ?_)
    ·
      refine go_aload_n (pc := 46) rfl dX1_passOn_46 ?_
      refine gi_getF (pc := 47) (q := 62) hv fL_X1_24 rfl (Nat.le_of_ble_eq_true rfl) rfl (hv.rf (by decide)) dX1_passOn_47 ?_
      refine go_iload_n (pc := 50) rfl dX1_passOn_50 ?_
      refine gi_lald (pc := 51) (len := 45) hv (ti_rfl a2) rfl (by omega) (by omega) dX1_passOn_51 (fun v35 v35w => ?_)
      exact go_lv rfl ((key 17).1 a2 a3 v35 v33 h hv (by omega) (by omega) (by omega) (by omega) fx (by omega))
    ·
      refine go_iload_n (pc := 39) rfl dX1_passOn_39 ?_
      refine go_invS (pc := 40) (sl := 0) (s_X7_bit_f l (d + 1) hv a2) mL_X1_79 iM_X7_bit rfl rfl (Nat.le_of_ble_eq_true rfl) (show d + 1 + 1 + 1 ≤ d + 3 by omega) (show 8 + (1 + 11) + 40 * (d + 1 + 1) ≤ 40 * (d + 3) by omega) (g_c0 hv.ln) (Nat.le_of_ble_eq_true rfl) dX1_passOn_40 ?_
      intro r h36 hq _
      obtain ⟨v38, rfl, rfl, f37⟩ := hq
      refine go_goto (pc := 43) (tgt := 52) (by decide) dX1_passOn_43 ?_
      exact go_lv rfl ((key 17).1 a2 a3 v38 v33 h hv (by omega) (by omega) (by omega) (by omega) fx (by omega))
set_option maxHeartbeats 4000000 in
set_option maxRecDepth 100000 in
theorem s_X1_findTellers_f (l : Launch) (d : Nat) {P : PP} {h : HP} (hv : Iv P h) (a2 : Int32) (a2l : 0 ≤ a2.toInt) (a2u : a2.toInt ≤ 9) : Mt l yX1_findTellers cX1_findTellers 5 none (d + 4) [.ref 57, .int a2] h 0 0 (fun r h' => r = none ∧ Iv P h' ∧ (FX KAc h h')) := by
  refine Mt_iv hv (by decide) (Nat.le_of_ble_eq_true rfl) ?_
  show Go l RX1 cX1_findTellers 5 (g_rm (d + 4) 0 0) "findTellers" none 117 0 0 (fun _ _ => True) (fun r h' => r = none ∧ Iv P h' ∧ (FX KAc h h')) 0 0 [(0, .ref 57), (1, .int a2)] [] h
  have fx : FX KAc h h := FX.rfl
  have key : ∀ n : Nat, (∀ (l1 : Int32) (hx : HP), Iv P hx → 0 ≤ l1.toInt → l1.toInt ≤ 9 → FX KAc h hx → (387282 : Int) < n → Go l RX1 cX1_findTellers 5 (g_rm (d + 4) 0 0) "findTellers" none 117 0 0 (fun _ _ => True) (fun r h' => r = none ∧ Iv P h' ∧ (FX KAc h h')) 0 20 [(0, .ref 57), (1, .int l1)] [] hx) ∧ (∀ (l1 : Int32) (l2 : Int32) (hx : HP), Iv P hx → 0 ≤ l1.toInt → l1.toInt ≤ 9 → 0 ≤ l2.toInt → l2.toInt ≤ 5 → FX KAc h hx → (3 * (5 - l2.toInt) + 387262 : Int) < n → Go l RX1 cX1_findTellers 5 (g_rm (d + 4) 0 0) "findTellers" none 117 0 0 (fun _ _ => True) (fun r h' => r = none ∧ Iv P h' ∧ (FX KAc h h')) 0 22 [(0, .ref 57), (1, .int l1), (2, .int l2)] [] hx) ∧ (∀ (l1 : Int32) (hx : HP), Iv P hx → 0 ≤ l1.toInt → l1.toInt ≤ 9 → FX KAc h hx → (387260 : Int) < n → Go l RX1 cX1_findTellers 5 (g_rm (d + 4) 0 0) "findTellers" none 117 0 0 (fun _ _ => True) (fun r h' => r = none ∧ Iv P h' ∧ (FX KAc h h')) 0 60 [(0, .ref 57), (1, .int l1)] [] hx) ∧ (∀ (l1 : Int32) (l2 : Int32) (l3 : Int32) (hx : HP), Iv P hx → 0 ≤ l1.toInt → l1.toInt ≤ 9 → 0 ≤ l2.toInt → l2.toInt ≤ 1 → 0 ≤ l3.toInt → l3.toInt ≤ 3000 → FX KAc h hx → (129 * (3000 - l3.toInt) + 129 : Int) < n → Go l RX1 cX1_findTellers 5 (g_rm (d + 4) 0 0) "findTellers" none 117 0 0 (fun _ _ => True) (fun r h' => r = none ∧ Iv P h' ∧ (FX KAc h h')) 0 64 [(0, .ref 57), (1, .int l1), (2, .int l2), (3, .int l3)] [] hx) ∧ (∀ (l1 : Int32) (l2 : Int32) (l3 : Int32) (l4 : Int32) (hx : HP), Iv P hx → 0 ≤ l1.toInt → l1.toInt ≤ 9 → 0 ≤ l2.toInt → l2.toInt ≤ 1 → 0 ≤ l3.toInt → l3.toInt ≤ 2025 → 0 ≤ l4.toInt → l4.toInt ≤ 40 → FX KAc h hx → (3 * (40 - l4.toInt) + 129 * (3000 - l3.toInt) + 4 : Int) < n → Go l RX1 cX1_findTellers 5 (g_rm (d + 4) 0 0) "findTellers" none 117 0 0 (fun _ _ => True) (fun r h' => r = none ∧ Iv P h' ∧ (FX KAc h h')) 0 80 [(0, .ref 57), (1, .int l1), (2, .int l2), (3, .int l3), (4, .int l4)] [] hx) ∧ (∀  (hx : HP), Iv P hx → FX KAc h hx → (1 : Int) < n → Go l RX1 cX1_findTellers 5 (g_rm (d + 4) 0 0) "findTellers" none 117 0 0 (fun _ _ => True) (fun r h' => r = none ∧ Iv P h' ∧ (FX KAc h h')) 0 114 [] [] hx) := by
    intro n
    induction n with
    | zero => exact ⟨(by intros; omega), (by intros; omega), (by intros; omega), (by intros; omega), (by intros; omega), (by intros; omega)⟩
    | succ n ih =>
      refine ⟨?_, ?_, ?_, ?_, ?_, ?_⟩
      ·
        intro l1 hx hvx l1l l1u fxx hm
        refine go_iconst (pc := 20) (v := 0) (by decide) dX1_findTellers_20 ?_
        refine go_istore_n (pc := 21) (Nat.le_of_ble_eq_true rfl) dX1_findTellers_21 (go_lv (lv2 := [(0, .ref 57), (1, .int l1), (2, .int 0)]) rfl ?_)
        have z1 : (0 : Int32).toInt = 0 := (ti_c (v := 0) (a := 0) (by decide))
        exact go_lv rfl (ih.2.1 l1 0 hx hvx (by omega) (by omega) (by omega) (by omega) fxx (by omega))
      ·
        intro l1 l2 hx hvx l1l l1u l2l l2u fxx hm
        refine go_iload_n (pc := 22) rfl dX1_findTellers_22 ?_
        refine go_aload_n (pc := 23) rfl dX1_findTellers_23 ?_
        refine gi_getC (pc := 24) hvx fL_X1_30 rfl (Nat.le_of_ble_eq_true rfl) rfl (by decide) dX1_findTellers_24 (fun c2 hc2 fc2 => ?_)
        refine gi_get (pc := 27) (lo := 0) (hi := 5) hvx fL_X1_90 (by rcases hc2 with rfl | rfl <;> rfl) (Nat.le_of_ble_eq_true rfl) rfl (by rcases hc2 with rfl | rfl <;> rfl) dX1_findTellers_27 (fun v3 v3l v3u v3w => ?_)
        refine gf_icmp_ge (pc := 30) (tgt := 60) (ti_rfl l2) (ti_rfl v3) (by decide) dX1_findTellers_30 (fun q4 => ?_) (fun q4 => ?_)
        ·
          exact go_lv rfl (ih.2.2.1 l1 hx hvx (by omega) (by omega) fxx (by omega))
        ·
          refine go_aload_n (pc := 33) rfl dX1_findTellers_33 ?_
          refine gi_getF (pc := 34) (q := 62) hvx fL_X1_24 rfl (Nat.le_of_ble_eq_true rfl) rfl (hvx.rf (by decide)) dX1_findTellers_34 ?_
          refine go_aload_n (pc := 37) rfl dX1_findTellers_37 ?_
          refine gi_getC (pc := 38) hvx fL_X1_30 rfl (Nat.le_of_ble_eq_true rfl) rfl (by decide) dX1_findTellers_38 (fun c5 hc5 fc5 => ?_)
          refine gi_getF (pc := 41) (q := c5 + 1) hvx fL_X1_93 (by rcases hc5 with rfl | rfl <;> rfl) (Nat.le_of_ble_eq_true rfl) rfl (by rcases hc5 with rfl | rfl <;> exact hvx.rf (by decide)) dX1_findTellers_41 ?_
          refine go_iload_n (pc := 44) rfl dX1_findTellers_44 ?_
          refine gi_iald (pc := 45) (lo := 0) (hi := 44) (len := 5) hvx (ti_rfl l2) (by rcases hc5 with rfl | rfl <;> rfl) (by omega) (by omega) (fun _ => by rcases hc5 with rfl | rfl <;> rfl) dX1_findTellers_45 (fun v6 v6l v6u v6w => ?_)
          refine go_bipush (pc := 46) (v := 40) (by decide) dX1_findTellers_46 ?_
          refine go_iload_n (pc := 48) rfl dX1_findTellers_48 ?_
          refine gf_iadd (pc := 49) (ti_c (v := 40) (a := 40) (by decide)) (ti_rfl l2) (by omega) (by omega) dX1_findTellers_49 (fun v7 e8 => ?_)
          refine go_invS (pc := 50) (sl := 0) (s_X7_bit_f l (d + 2) hvx v7) mL_X1_79 iM_X7_bit rfl rfl (Nat.le_of_ble_eq_true rfl) (show d + 2 + 1 + 1 ≤ d + 4 by omega) (show 8 + (1 + 11) + 40 * (d + 2 + 1) ≤ 40 * (d + 4) by omega) (g_c0 hvx.ln) (Nat.le_of_ble_eq_true rfl) dX1_findTellers_50 ?_
          intro r h9 hq _
          obtain ⟨v11, rfl, rfl, f10⟩ := hq
          try rw [show (v7 : Int32).toInt = (40 + l2.toInt) from e8] at f10
          refine gi_last (pc := 53) (len := 45) hvx (ti_rfl v6) rfl (by omega) (by omega) dX1_findTellers_53 (fun h12 hv12 hv12e => ?_)
          have fx12 : FX KAc h h12 := FX.pL fxx hv12e (by unfold KAc; omega)
          refine gf_iinc (pc := 54) (Nat.le_of_ble_eq_true rfl) rfl (ti_rfl l2) (ti_c (by decide)) (by omega) (by omega) dX1_findTellers_54 (fun v13 e14 => ?_)
          refine go_lv (lv2 := [(0, .ref 57), (1, .int l1), (2, .int v13)]) rfl ?_
          refine go_goto (pc := 57) (tgt := 22) (by decide) dX1_findTellers_57 ?_
          have z15 : (v13 : Int32).toInt = (l2.toInt + 1) := e14
          exact go_lv rfl (ih.2.1 l1 v13 h12 hv12 (by omega) (by omega) (by omega) (by omega) fx12 (by omega))
      ·
        intro l1 hx hvx l1l l1u fxx hm
        refine go_iconst (pc := 60) (v := 1) (by decide) dX1_findTellers_60 ?_
        refine go_istore_n (pc := 61) (Nat.le_of_ble_eq_true rfl) dX1_findTellers_61 (go_lv (lv2 := [(0, .ref 57), (1, .int l1), (2, .int 1)]) rfl ?_)
        refine go_iconst (pc := 62) (v := 0) (by decide) dX1_findTellers_62 ?_
        refine go_istore_n (pc := 63) (Nat.le_of_ble_eq_true rfl) dX1_findTellers_63 (go_lv (lv2 := [(0, .ref 57), (1, .int l1), (2, .int 1), (3, .int 0)]) rfl ?_)
        have z16 : (1 : Int32).toInt = 1 := (ti_c (v := 1) (a := 1) (by decide))
        have z17 : (0 : Int32).toInt = 0 := (ti_c (v := 0) (a := 0) (by decide))
        exact go_lv rfl (ih.2.2.2.1 l1 1 0 hx hvx (by omega) (by omega) (by omega) (by omega) (by omega) (by omega) fxx (by omega))
      ·
        intro l1 l2 l3 hx hvx l1l l1u l2l l2u l3l l3u fxx hm
        refine go_iload_n (pc := 64) rfl dX1_findTellers_64 ?_
        refine go_sipush (pc := 65) (v := 2025) (by decide) dX1_findTellers_65 ?_
        refine gf_icmp_ge (pc := 68) (tgt := 114) (ti_rfl l3) (ti_c (v := 2025) (a := 2025) (by decide)) (by decide) dX1_findTellers_68 (fun q18 => ?_) (fun q18 => ?_)
        ·
          exact go_lv rfl (ih.2.2.2.2.2  hx hvx fxx (by omega))
        ·
          refine go_iload_n (pc := 71) rfl dX1_findTellers_71 ?_
          refine gf_if_eq (pc := 72) (tgt := 114) (ti_rfl l2) (by decide) dX1_findTellers_72 (fun q19 => ?_) (fun q19 => ?_)
          ·
            exact go_lv rfl (ih.2.2.2.2.2  hx hvx fxx (by omega))
          ·
            refine go_iconst (pc := 75) (v := 0) (by decide) dX1_findTellers_75 ?_
            refine go_istore_n (pc := 76) (Nat.le_of_ble_eq_true rfl) dX1_findTellers_76 (go_lv (lv2 := [(0, .ref 57), (1, .int l1), (2, .int 0), (3, .int l3)]) rfl ?_)
            refine go_iconst (pc := 77) (v := 0) (by decide) dX1_findTellers_77 ?_
            refine go_istore (pc := 78) (Nat.le_of_ble_eq_true rfl) dX1_findTellers_78 (go_lv (lv2 := [(0, .ref 57), (1, .int l1), (2, .int 0), (3, .int l3), (4, .int 0)]) rfl ?_)
            have z20 : (0 : Int32).toInt = 0 := (ti_c (v := 0) (a := 0) (by decide))
            have z21 : (0 : Int32).toInt = 0 := (ti_c (v := 0) (a := 0) (by decide))
            exact go_lv rfl (ih.2.2.2.2.1 l1 0 l3 0 hx hvx (by omega) (by omega) (by omega) (by omega) (by omega) (by omega) (by omega) (by omega) fxx (by omega))
      ·
        intro l1 l2 l3 l4 hx hvx l1l l1u l2l l2u l3l l3u l4l l4u fxx hm
        refine go_iload (pc := 80) rfl dX1_findTellers_80 ?_
        refine go_aload_n (pc := 82) rfl dX1_findTellers_82 ?_
        refine gi_getC (pc := 83) hvx fL_X1_30 rfl (Nat.le_of_ble_eq_true rfl) rfl (by decide) dX1_findTellers_83 (fun c22 hc22 fc22 => ?_)
        refine gi_get (pc := 86) (lo := 0) (hi := 40) hvx fL_X1_62 (by rcases hc22 with rfl | rfl <;> rfl) (Nat.le_of_ble_eq_true rfl) rfl (by rcases hc22 with rfl | rfl <;> rfl) dX1_findTellers_86 (fun v23 v23l v23u v23w => ?_)
        refine gf_icmp_ge (pc := 89) (tgt := 108) (ti_rfl l4) (ti_rfl v23) (by decide) dX1_findTellers_89 (fun q24 => ?_) (fun q24 => ?_)
        ·
          refine gf_iinc (pc := 108) (Nat.le_of_ble_eq_true rfl) rfl (ti_rfl l3) (ti_c (by decide)) (by omega) (by omega) dX1_findTellers_108 (fun v25 e26 => ?_)
          refine go_lv (lv2 := [(0, .ref 57), (1, .int l1), (2, .int l2), (3, .int v25), (4, .int l4)]) rfl ?_
          refine go_goto (pc := 111) (tgt := 64) (by decide) dX1_findTellers_111 ?_
          have z27 : (v25 : Int32).toInt = (l3.toInt + 1) := e26
          exact go_lv rfl (ih.2.2.2.1 l1 l2 v25 hx hvx (by omega) (by omega) (by omega) (by omega) (by omega) (by omega) fxx (by omega))
        ·
          refine go_iload_n (pc := 92) rfl dX1_findTellers_92 ?_
          refine go_aload_n (pc := 93) rfl dX1_findTellers_93 ?_
          refine go_iload (pc := 94) rfl dX1_findTellers_94 ?_
          refine go_iload_n (pc := 96) rfl dX1_findTellers_96 ?_
          refine go_invV (pc := 97) (sl := 0) (s_X1_passOn_f l (d + 0) hvx l4 (by rw [show (l4 : Int32).toInt = l4.toInt from (ti_rfl l4)]; omega) (by rw [show (l4 : Int32).toInt = l4.toInt from (ti_rfl l4)]; omega) l1) mL_X1_110 iM_X1_passOn sM_X1_passOn (hvx.sh rfl) rfl rfl rfl (Nat.le_of_ble_eq_true rfl) (show d + 0 + 3 + 1 ≤ d + 4 by omega) (show 8 + (5 + 11) + 40 * (d + 0 + 3) ≤ 40 * (d + 4) by omega) (g_c0 hvx.ln) (Nat.le_of_ble_eq_true rfl) dX1_findTellers_97 ?_
          intro r h28 hq _
          obtain ⟨v30, rfl, v30l, v30u, hv28, f29⟩ := hq
          have fx28 : FX KAc h h28 := FX.tr fxx f29
          refine gf_ior (pc := 100) (ti_rfl l2) (ti_rfl v30) (by omega) (by omega) (by omega) (by omega) dX1_findTellers_100 (fun v31 v31l v31u => ?_)
          refine go_istore_n (pc := 101) (Nat.le_of_ble_eq_true rfl) dX1_findTellers_101 (go_lv (lv2 := [(0, .ref 57), (1, .int l1), (2, .int v31), (3, .int l3), (4, .int l4)]) rfl ?_)
          refine gf_iinc (pc := 102) (Nat.le_of_ble_eq_true rfl) rfl (ti_rfl l4) (ti_c (by decide)) (by omega) (by omega) dX1_findTellers_102 (fun v32 e33 => ?_)
          refine go_lv (lv2 := [(0, .ref 57), (1, .int l1), (2, .int v31), (3, .int l3), (4, .int v32)]) rfl ?_
          refine go_goto (pc := 105) (tgt := 80) (by decide) dX1_findTellers_105 ?_
          have z34 : (v32 : Int32).toInt = (l4.toInt + 1) := e33
          exact go_lv rfl (ih.2.2.2.2.1 l1 v31 l3 v32 h28 hv28 (by omega) (by omega) (by omega) (by omega) (by omega) (by omega) (by omega) (by omega) fx28 (by omega))
      ·
        intro hx hvx fxx hm
        exact gi_vret (pc := 114) ⟨rfl, hvx, fxx⟩ hvx dX1_findTellers_114
  refine go_aload_n (pc := 0) rfl dX1_findTellers_0 ?_
  refine gi_getF (pc := 1) (q := 62) hv fL_X1_24 rfl (Nat.le_of_ble_eq_true rfl) rfl (hv.rf (by decide)) dX1_findTellers_1 ?_
  refine go_lconst (pc := 4) (v := 0) (by decide) dX1_findTellers_4 ?_
  refine go_invS (pc := 5) (sl := 0) (s_J7_fill_d0a16_at62_f l (d + 2) hv (0 : Int64)) mL_X1_34 iM_J7_fill_d0a16 rfl rfl (Nat.le_of_ble_eq_true rfl) (show d + 2 + 1 + 1 ≤ d + 4 by omega) (show 8 + (5 + 11) + 40 * (d + 2 + 1) ≤ 40 * (d + 4) by omega) (g_c0 hv.ln) (Nat.le_of_ble_eq_true rfl) dX1_findTellers_5 ?_
  intro r h35 hq _
  obtain ⟨rfl, hv35, f36⟩ := hq
  have fx35 : FX KAc h h35 := FX.tr fx f36
  refine go_iload_n (pc := 8) rfl dX1_findTellers_8 ?_
  refine go_iconst (pc := 9) (v := 2) (by decide) dX1_findTellers_9 ?_
  refine gf_icmp_lt (pc := 10) (tgt := 20) (ti_rfl a2) (ti_c (v := 2) (a := 2) (by decide)) (by decide) dX1_findTellers_10 (fun q37 => ?_) (fun q37 => ?_)
  ·
    exact go_lv rfl ((key 387295).1 a2 h35 hv35 (by omega) (by omega) fx35 (by omega))
  ·
    refine go_iload_n (pc := 13) rfl dX1_findTellers_13 ?_
    refine go_invS (pc := 14) (sl := 0) (s_X7_isField_f l (d + 2) hv35 a2) mL_X1_107 iM_X7_isField rfl rfl (Nat.le_of_ble_eq_true rfl) (show d + 2 + 1 + 1 ≤ d + 4 by omega) (show 8 + (1 + 11) + 40 * (d + 2 + 1) ≤ 40 * (d + 4) by omega) (g_c0 hv35.ln) (Nat.le_of_ble_eq_true rfl) dX1_findTellers_14 ?_
    intro r h38 hq _
    obtain ⟨v41, rfl, v41l, v41u, rfl, f42, f39, f40⟩ := hq
    refine gf_if_eq (pc := 17) (tgt := 60) (ti_rfl v41) (by decide) dX1_findTellers_17 (fun q43 => ?_) (fun q43 => ?_)
    ·
      exact go_lv rfl ((key 387295).2.2.1 a2 h35 hv35 (by omega) (by omega) fx35 (by omega))
    ·
      exact go_lv rfl ((key 387295).1 a2 h35 hv35 (by omega) (by omega) fx35 (by omega))
set_option maxHeartbeats 4000000 in
set_option maxRecDepth 100000 in
theorem s_X1_tieUse_f (l : Launch) (d : Nat) {P : PP} {h : HP} (hv : Iv P h) (a2 : Int32) (a2l : 0 ≤ a2.toInt) (a2u : a2.toInt ≤ 44) (a3 : Int32) (a3l : 0 ≤ a3.toInt) (a3u : a3.toInt ≤ 12) (a4 : Int32) (a4l : 0 ≤ a4.toInt) (a4u : a4.toInt ≤ 9) : Mt l yX1_tieUse cX1_tieUse 8 none (d + 2) [.ref 57, .int a2, .int a3, .int a4] h 0 0 (fun r h' => r = none ∧ Iv P h' ∧ (FX KAc h h')) := by
  refine Mt_iv hv (by decide) (Nat.le_of_ble_eq_true rfl) ?_
  show Go l RX1 cX1_tieUse 8 (g_rm (d + 2) 0 0) "tieUse" none 117 0 0 (fun _ _ => True) (fun r h' => r = none ∧ Iv P h' ∧ (FX KAc h h')) 0 0 [(0, .ref 57), (1, .int a2), (2, .int a3), (3, .int a4)] [] h
  have fx : FX KAc h h := FX.rfl
  have key : ∀ n : Nat, (∀ (l1 : Int32) (l2 : Int32) (l3 : Int32) (l4 : Int64) (s0 : Int32) (hx : HP), Iv P hx → 0 ≤ l1.toInt → l1.toInt ≤ 44 → 0 ≤ l2.toInt → l2.toInt ≤ 12 → 0 ≤ l3.toInt → l3.toInt ≤ 9 → 0 ≤ s0.toInt → s0.toInt ≤ 5 → FX KAc h hx → (3 : Int) < n → Go l RX1 cX1_tieUse 8 (g_rm (d + 2) 0 0) "tieUse" none 117 0 0 (fun _ _ => True) (fun r h' => r = none ∧ Iv P h' ∧ (FX KAc h h')) 0 23 [(0, .ref 57), (1, .int l1), (2, .int l2), (3, .int l3), (4, .long l4)] [.int s0] hx) ∧ (∀ (l1 : Int32) (l2 : Int32) (l4 : Int64) (l6 : Int32) (s0 : Int32) (hx : HP), Iv P hx → 0 ≤ l1.toInt → l1.toInt ≤ 44 → 0 ≤ l2.toInt → l2.toInt ≤ 12 → 0 ≤ l6.toInt → l6.toInt ≤ 5 → 0 ≤ s0.toInt → s0.toInt ≤ 9 → FX KAc h hx → (2 : Int) < n → Go l RX1 cX1_tieUse 8 (g_rm (d + 2) 0 0) "tieUse" none 117 0 0 (fun _ _ => True) (fun r h' => r = none ∧ Iv P h' ∧ (FX KAc h h')) 0 40 [(0, .ref 57), (1, .int l1), (2, .int l2), (4, .long l4), (6, .int l6)] [.int s0] hx) ∧ (∀  (hx : HP), Iv P hx → FX KAc h hx → (1 : Int) < n → Go l RX1 cX1_tieUse 8 (g_rm (d + 2) 0 0) "tieUse" none 117 0 0 (fun _ _ => True) (fun r h' => r = none ∧ Iv P h' ∧ (FX KAc h h')) 0 125 [] [] hx) := by
    intro n
    induction n with
    | zero => exact ⟨(by intros; omega), (by intros; omega), (by intros; omega)⟩
    | succ n ih =>
      refine ⟨?_, ?_, ?_⟩
      ·
        intro l1 l2 l3 l4 s0 hx hvx l1l l1u l2l l2u l3l l3u s0l s0u fxx hm
        refine go_istore (pc := 23) (Nat.le_of_ble_eq_true rfl) dX1_tieUse_23 (go_lv (lv2 := [(0, .ref 57), (1, .int l1), (2, .int l2), (3, .int l3), (4, .long l4), (6, .int s0)]) rfl ?_)
        refine go_iload_n (pc := 25) rfl dX1_tieUse_25 ?_
        refine go_invS (pc := 26) (sl := 0) (s_X7_isField_f l (d + 0) hvx l3) mL_X1_107 iM_X7_isField rfl rfl (Nat.le_of_ble_eq_true rfl) (show d + 0 + 1 + 1 ≤ d + 2 by omega) (show 8 + (1 + 11) + 40 * (d + 0 + 1) ≤ 40 * (d + 2) by omega) (g_c0 hvx.ln) (Nat.le_of_ble_eq_true rfl) dX1_tieUse_26 ?_
        intro r h1 hq _
        obtain ⟨v4, rfl, v4l, v4u, rfl, f5, f2, f3⟩ := hq
        refine gf_if_eq (pc := 29) (tgt := 39) (ti_rfl v4) (by decide) dX1_tieUse_29 (fun q6 => ?_) (fun q6 => ?_)
        ·
          refine go_iload_n (pc := 39) rfl dX1_tieUse_39 ?_
          exact go_lv rfl (ih.2.1 l1 l2 l4 s0 l3 hx hvx (by omega) (by omega) (by omega) (by omega) (by omega) (by omega) (by omega) (by omega) fxx (by omega))
        ·
          refine go_iload_n (pc := 32) rfl dX1_tieUse_32 ?_
          refine go_invS (pc := 33) (sl := 0) (s_X7_portOfField l (d + 0) hvx l3 (by rw [show (l3 : Int32).toInt = l3.toInt from (ti_rfl l3)]; omega) (by rw [show (l3 : Int32).toInt = l3.toInt from (ti_rfl l3)]; omega)) mL_X1_137 iM_X7_portOfField rfl rfl (Nat.le_of_ble_eq_true rfl) (show d + 0 + 1 + 1 ≤ d + 2 by omega) (show 8 + (1 + 11) + 40 * (d + 0 + 1) ≤ 40 * (d + 2) by omega) (g_c0 hvx.ln) (Nat.le_of_ble_eq_true rfl) dX1_tieUse_33 ?_
          intro r h7 hq _
          obtain ⟨v8, rfl, v8l, v8u, rfl⟩ := hq
          refine go_goto (pc := 36) (tgt := 40) (by decide) dX1_tieUse_36 ?_
          exact go_lv rfl (ih.2.1 l1 l2 l4 s0 v8 hx hvx (by omega) (by omega) (by omega) (by omega) (by omega) (by omega) (by omega) (by omega) fxx (by omega))
      ·
        intro l1 l2 l4 l6 s0 hx hvx l1l l1u l2l l2u l6l l6u s0l s0u fxx hm
        refine go_istore (pc := 40) (Nat.le_of_ble_eq_true rfl) dX1_tieUse_40 (go_lv (lv2 := [(0, .ref 57), (1, .int l1), (2, .int l2), (4, .long l4), (6, .int l6), (7, .int s0)]) rfl ?_)
        refine go_aload_n (pc := 42) rfl dX1_tieUse_42 ?_
        refine go_iload_n (pc := 43) rfl dX1_tieUse_43 ?_
        refine go_iload_n (pc := 44) rfl dX1_tieUse_44 ?_
        refine go_iconst (pc := 45) (v := 0) (by decide) dX1_tieUse_45 ?_
        refine go_lload (pc := 46) rfl dX1_tieUse_46 ?_
        refine go_ldc2 (pc := 48) kL_X1_60 dX1_tieUse_48 ?_
        refine gu_land (pc := 51) dX1_tieUse_51 (fun v9 => ?_)
        refine go_aload_n (pc := 52) rfl dX1_tieUse_52 ?_
        refine gi_getC (pc := 53) hvx fL_X1_30 rfl (Nat.le_of_ble_eq_true rfl) rfl (by decide) dX1_tieUse_53 (fun c10 hc10 fc10 => ?_)
        refine gi_getL (pc := 56) hvx fL_X1_141 (by rcases hc10 with rfl | rfl <;> rfl) (Nat.le_of_ble_eq_true rfl) rfl dX1_tieUse_56 (fun v11 => ?_)
        refine go_ldc2 (pc := 59) kL_X1_145 dX1_tieUse_59 ?_
        refine gu_lxor (pc := 62) dX1_tieUse_62 (fun v12 => ?_)
        refine gu_land (pc := 63) dX1_tieUse_63 (fun v13 => ?_)
        refine go_invV (pc := 64) (sl := 0) (s_X1_tie_f l (d + 0) hvx l1 (by rw [show (l1 : Int32).toInt = l1.toInt from (ti_rfl l1)]; omega) (by rw [show (l1 : Int32).toInt = l1.toInt from (ti_rfl l1)]; omega) l2 (by rw [show (l2 : Int32).toInt = l2.toInt from (ti_rfl l2)]; omega) (by rw [show (l2 : Int32).toInt = l2.toInt from (ti_rfl l2)]; omega) 0 (by rw [show (0 : Int32).toInt = 0 from (ti_c (v := 0) (a := 0) (by decide))]; omega) (by rw [show (0 : Int32).toInt = 0 from (ti_c (v := 0) (a := 0) (by decide))]; omega) v13) mL_X1_103 iM_X1_tie sM_X1_tie (hvx.sh rfl) rfl rfl rfl (Nat.le_of_ble_eq_true rfl) (show d + 0 + 1 + 1 ≤ d + 2 by omega) (show 8 + (6 + 11) + 40 * (d + 0 + 1) ≤ 40 * (d + 2) by omega) (g_c0 hvx.ln) (Nat.le_of_ble_eq_true rfl) dX1_tieUse_64 ?_
        intro r h14 hq _
        obtain ⟨rfl, hv14, f15⟩ := hq
        try rw [show (0 : Int32).toInt = 0 from (ti_c (v := 0) (a := 0) (by decide))] at f15
        have fx14 : FX KAc h h14 := FX.tr fxx f15
        refine go_aload_n (pc := 67) rfl dX1_tieUse_67 ?_
        refine go_iload_n (pc := 68) rfl dX1_tieUse_68 ?_
        refine go_iload_n (pc := 69) rfl dX1_tieUse_69 ?_
        refine go_bipush (pc := 70) (v := 7) (by decide) dX1_tieUse_70 ?_
        refine go_iload (pc := 72) rfl dX1_tieUse_72 ?_
        refine gf_iadd (pc := 74) (ti_c (v := 7) (a := 7) (by decide)) (ti_rfl l6) (by omega) (by omega) dX1_tieUse_74 (fun v16 e17 => ?_)
        refine go_lload (pc := 75) rfl dX1_tieUse_75 ?_
        refine go_aload_n (pc := 77) rfl dX1_tieUse_77 ?_
        refine gi_getC (pc := 78) hv14 fL_X1_30 rfl (Nat.le_of_ble_eq_true rfl) rfl (by decide) dX1_tieUse_78 (fun c18 hc18 fc18 => ?_)
        refine gi_getL (pc := 81) hv14 fL_X1_141 (by rcases hc18 with rfl | rfl <;> rfl) (Nat.le_of_ble_eq_true rfl) rfl dX1_tieUse_81 (fun v19 => ?_)
        refine gu_land (pc := 84) dX1_tieUse_84 (fun v20 => ?_)
        refine go_invV (pc := 85) (sl := 0) (s_X1_tie_f l (d + 0) hv14 l1 (by rw [show (l1 : Int32).toInt = l1.toInt from (ti_rfl l1)]; omega) (by rw [show (l1 : Int32).toInt = l1.toInt from (ti_rfl l1)]; omega) l2 (by rw [show (l2 : Int32).toInt = l2.toInt from (ti_rfl l2)]; omega) (by rw [show (l2 : Int32).toInt = l2.toInt from (ti_rfl l2)]; omega) v16 (by rw [show (v16 : Int32).toInt = (7 + l6.toInt) from e17]; omega) (by rw [show (v16 : Int32).toInt = (7 + l6.toInt) from e17]; omega) v20) mL_X1_103 iM_X1_tie sM_X1_tie (hv14.sh rfl) rfl rfl rfl (Nat.le_of_ble_eq_true rfl) (show d + 0 + 1 + 1 ≤ d + 2 by omega) (show 8 + (6 + 11) + 40 * (d + 0 + 1) ≤ 40 * (d + 2) by omega) (g_c0 hv14.ln) (Nat.le_of_ble_eq_true rfl) dX1_tieUse_85 ?_
        intro r h21 hq _
        obtain ⟨rfl, hv21, f22⟩ := hq
        try rw [show (v16 : Int32).toInt = (7 + l6.toInt) from e17] at f22
        have fx21 : FX KAc h h21 := FX.tr fx14 f22
        refine go_aload_n (pc := 88) rfl dX1_tieUse_88 ?_
        refine go_iload_n (pc := 89) rfl dX1_tieUse_89 ?_
        refine go_iload_n (pc := 90) rfl dX1_tieUse_90 ?_
        refine go_iconst (pc := 91) (v := 1) (by decide) dX1_tieUse_91 ?_
        refine go_iload (pc := 92) rfl dX1_tieUse_92 ?_
        refine gf_iadd (pc := 94) (ti_c (v := 1) (a := 1) (by decide)) (ti_rfl s0) (by omega) (by omega) dX1_tieUse_94 (fun v23 e24 => ?_)
        refine go_lload (pc := 95) rfl dX1_tieUse_95 ?_
        refine go_ldc2 (pc := 97) kL_X1_147 dX1_tieUse_97 ?_
        refine gu_land (pc := 100) dX1_tieUse_100 (fun v25 => ?_)
        refine go_invV (pc := 101) (sl := 0) (s_X1_tie_f l (d + 0) hv21 l1 (by rw [show (l1 : Int32).toInt = l1.toInt from (ti_rfl l1)]; omega) (by rw [show (l1 : Int32).toInt = l1.toInt from (ti_rfl l1)]; omega) l2 (by rw [show (l2 : Int32).toInt = l2.toInt from (ti_rfl l2)]; omega) (by rw [show (l2 : Int32).toInt = l2.toInt from (ti_rfl l2)]; omega) v23 (by rw [show (v23 : Int32).toInt = (1 + s0.toInt) from e24]; omega) (by rw [show (v23 : Int32).toInt = (1 + s0.toInt) from e24]; omega) v25) mL_X1_103 iM_X1_tie sM_X1_tie (hv21.sh rfl) rfl rfl rfl (Nat.le_of_ble_eq_true rfl) (show d + 0 + 1 + 1 ≤ d + 2 by omega) (show 8 + (6 + 11) + 40 * (d + 0 + 1) ≤ 40 * (d + 2) by omega) (g_c0 hv21.ln) (Nat.le_of_ble_eq_true rfl) dX1_tieUse_101 ?_
        intro r h26 hq _
        obtain ⟨rfl, hv26, f27⟩ := hq
        try rw [show (v23 : Int32).toInt = (1 + s0.toInt) from e24] at f27
        have fx26 : FX KAc h h26 := FX.tr fx21 f27
        refine go_iload_n (pc := 104) rfl dX1_tieUse_104 ?_
        refine go_bipush (pc := 105) (v := 40) (by decide) dX1_tieUse_105 ?_
        refine gf_icmp_ge (pc := 107) (tgt := 125) (ti_rfl l1) (ti_c (v := 40) (a := 40) (by decide)) (by decide) dX1_tieUse_107 (fun q28 => ?_) (fun q28 => ?_)
        ·
          exact go_lv rfl (ih.2.2  h26 hv26 fx26 (by omega))
        ·
          refine go_aload_n (pc := 110) rfl dX1_tieUse_110 ?_
          refine gi_getF (pc := 111) (q := 59) hv26 fL_X1_15 rfl (Nat.le_of_ble_eq_true rfl) rfl (hv26.rf (by decide)) dX1_tieUse_111 ?_
          refine go_iload_n (pc := 114) rfl dX1_tieUse_114 ?_
          refine go_dup2 (pc := 115) rfl rfl dX1_tieUse_115 ?_
          refine gi_lald (pc := 116) (len := 40) hv26 (ti_rfl l1) rfl (by omega) (by omega) dX1_tieUse_116 (fun v29 v29w => ?_)
          refine go_lload (pc := 117) rfl dX1_tieUse_117 ?_
          refine go_ldc2 (pc := 119) kL_X1_60 dX1_tieUse_119 ?_
          refine gu_land (pc := 122) dX1_tieUse_122 (fun v30 => ?_)
          refine gu_lor (pc := 123) dX1_tieUse_123 (fun v31 => ?_)
          refine gi_last (pc := 124) (len := 40) hv26 (ti_rfl l1) rfl (by omega) (by omega) dX1_tieUse_124 (fun h32 hv32 hv32e => ?_)
          have fx32 : FX KAc h h32 := FX.pL fx26 hv32e (by unfold KAc; omega)
          exact go_lv rfl (ih.2.2  h32 hv32 fx32 (by omega))
      ·
        intro hx hvx fxx hm
        exact gi_vret (pc := 125) ⟨rfl, hvx, fxx⟩ hvx dX1_tieUse_125
  refine go_aload_n (pc := 0) rfl dX1_tieUse_0 ?_
  refine gi_getF (pc := 1) (q := 62) hv fL_X1_24 rfl (Nat.le_of_ble_eq_true rfl) rfl (hv.rf (by decide)) dX1_tieUse_1 ?_
  refine go_iload_n (pc := 4) rfl dX1_tieUse_4 ?_
  refine gi_lald (pc := 5) (len := 45) hv (ti_rfl a2) rfl (by omega) (by omega) dX1_tieUse_5 (fun v33 v33w => ?_)
  refine go_lstore (pc := 6) (Nat.le_of_ble_eq_true rfl) dX1_tieUse_6 (go_lv (lv2 := [(0, .ref 57), (1, .int a2), (2, .int a3), (3, .int a4), (4, .long v33)]) rfl ?_)
  refine go_iload_n (pc := 8) rfl dX1_tieUse_8 ?_
  refine go_invS (pc := 9) (sl := 0) (s_X7_isField_f l (d + 0) hv a4) mL_X1_107 iM_X7_isField rfl rfl (Nat.le_of_ble_eq_true rfl) (show d + 0 + 1 + 1 ≤ d + 2 by omega) (show 8 + (1 + 11) + 40 * (d + 0 + 1) ≤ 40 * (d + 2) by omega) (g_c0 hv.ln) (Nat.le_of_ble_eq_true rfl) dX1_tieUse_9 ?_
  intro r h34 hq _
  obtain ⟨v37, rfl, v37l, v37u, rfl, f38, f35, f36⟩ := hq
  refine gf_if_eq (pc := 12) (tgt := 22) (ti_rfl v37) (by decide) dX1_tieUse_12 (fun q39 => ?_) (fun q39 => ?_)
  ·
    refine go_iconst (pc := 22) (v := 0) (by decide) dX1_tieUse_22 ?_
    have z40 : (0 : Int32).toInt = 0 := (ti_c (v := 0) (a := 0) (by decide))
    exact go_lv rfl ((key 16).1 a2 a3 a4 v33 0 h hv (by omega) (by omega) (by omega) (by omega) (by omega) (by omega) (by omega) (by omega) fx (by omega))
  ·
    refine go_iload_n (pc := 15) rfl dX1_tieUse_15 ?_
    refine go_invS (pc := 16) (sl := 0) (s_X7_portOfField l (d + 0) hv a4 (by rw [show (a4 : Int32).toInt = a4.toInt from (ti_rfl a4)]; omega) (by rw [show (a4 : Int32).toInt = a4.toInt from (ti_rfl a4)]; omega)) mL_X1_137 iM_X7_portOfField rfl rfl (Nat.le_of_ble_eq_true rfl) (show d + 0 + 1 + 1 ≤ d + 2 by omega) (show 8 + (1 + 11) + 40 * (d + 0 + 1) ≤ 40 * (d + 2) by omega) (g_c0 hv.ln) (Nat.le_of_ble_eq_true rfl) dX1_tieUse_16 ?_
    intro r h41 hq _
    obtain ⟨v42, rfl, v42l, v42u, rfl⟩ := hq
    refine go_goto (pc := 19) (tgt := 23) (by decide) dX1_tieUse_19 ?_
    exact go_lv rfl ((key 16).1 a2 a3 a4 v33 v42 h hv (by omega) (by omega) (by omega) (by omega) (by omega) (by omega) (by omega) (by omega) fx (by omega))
set_option maxHeartbeats 4000000 in
set_option maxRecDepth 100000 in
theorem s_X1_tieByValue_f (l : Launch) (d : Nat) {P : PP} {h : HP} (hv : Iv P h) (a2 : Int32) (a2l : 0 ≤ a2.toInt) (a2u : a2.toInt ≤ 9) : Mt l yX1_tieByValue cX1_tieByValue 4 none (d + 3) [.ref 57, .int a2] h 0 0 (fun r h' => r = none ∧ Iv P h' ∧ (FX KAc h h')) := by
  refine Mt_iv hv (by decide) (Nat.le_of_ble_eq_true rfl) ?_
  show Go l RX1 cX1_tieByValue 4 (g_rm (d + 3) 0 0) "tieByValue" none 117 0 0 (fun _ _ => True) (fun r h' => r = none ∧ Iv P h' ∧ (FX KAc h h')) 0 0 [(0, .ref 57), (1, .int a2)] [] h
  have fx : FX KAc h h := FX.rfl
  have key : ∀ n : Nat, (∀ (l1 : Int32) (l2 : Int32) (hx : HP), Iv P hx → 0 ≤ l1.toInt → l1.toInt ≤ 9 → 0 ≤ l2.toInt → l2.toInt ≤ 40 → FX KAc h hx → (9 * (40 - l2.toInt) + 30 : Int) < n → Go l RX1 cX1_tieByValue 4 (g_rm (d + 3) 0 0) "tieByValue" none 117 0 0 (fun _ _ => True) (fun r h' => r = none ∧ Iv P h' ∧ (FX KAc h h')) 0 2 [(0, .ref 57), (1, .int l1), (2, .int l2)] [] hx) ∧ (∀ (l1 : Int32) (l2 : Int32) (s0 : Int32) (hx : HP), Iv P hx → 0 ≤ l1.toInt → l1.toInt ≤ 9 → 0 ≤ l2.toInt → l2.toInt ≤ 39 → 0 ≤ s0.toInt → s0.toInt ≤ 1 → FX KAc h hx → (9 * (40 - l2.toInt) + 29 : Int) < n → Go l RX1 cX1_tieByValue 4 (g_rm (d + 3) 0 0) "tieByValue" none 117 0 0 (fun _ _ => True) (fun r h' => r = none ∧ Iv P h' ∧ (FX KAc h h')) 0 31 [(0, .ref 57), (1, .int l1), (2, .int l2)] [.int s0] hx) ∧ (∀ (l1 : Int32) (l2 : Int32) (l3 : Int32) (s0 : Int32) (s1 : Int32) (hx : HP), Iv P hx → 0 ≤ l1.toInt → l1.toInt ≤ 9 → 0 ≤ l2.toInt → l2.toInt ≤ 39 → 0 ≤ l3.toInt → l3.toInt ≤ 1 → 0 ≤ s0.toInt → s0.toInt ≤ 1 → 0 ≤ s1.toInt → s1.toInt ≤ 39 → FX KAc h hx → (9 * (40 - l2.toInt) + 28 : Int) < n → Go l RX1 cX1_tieByValue 4 (g_rm (d + 3) 0 0) "tieByValue" none 117 0 0 (fun _ _ => True) (fun r h' => r = none ∧ Iv P h' ∧ (FX KAc h h')) 0 56 [(0, .ref 57), (1, .int l1), (2, .int l2), (3, .int l3)] [.int s0, .int s1, .ref 57] hx) ∧ (∀ (l1 : Int32) (l2 : Int32) (l3 : Int32) (hx : HP), Iv P hx → 0 ≤ l1.toInt → l1.toInt ≤ 9 → 0 ≤ l2.toInt → l2.toInt ≤ 39 → 0 ≤ l3.toInt → l3.toInt ≤ 1 → FX KAc h hx → (9 * (40 - l2.toInt) + 27 : Int) < n → Go l RX1 cX1_tieByValue 4 (g_rm (d + 3) 0 0) "tieByValue" none 117 0 0 (fun _ _ => True) (fun r h' => r = none ∧ Iv P h' ∧ (FX KAc h h')) 0 60 [(0, .ref 57), (1, .int l1), (2, .int l2), (3, .int l3)] [] hx) ∧ (∀ (l1 : Int32) (l2 : Int32) (l3 : Int32) (s0 : Int32) (s1 : Int32) (hx : HP), Iv P hx → 0 ≤ l1.toInt → l1.toInt ≤ 9 → 0 ≤ l2.toInt → l2.toInt ≤ 39 → 0 ≤ l3.toInt → l3.toInt ≤ 1 → 0 ≤ s0.toInt → s0.toInt ≤ 2 → 0 ≤ s1.toInt → s1.toInt ≤ 39 → FX KAc h hx → (9 * (40 - l2.toInt) + 26 : Int) < n → Go l RX1 cX1_tieByValue 4 (g_rm (d + 3) 0 0) "tieByValue" none 117 0 0 (fun _ _ => True) (fun r h' => r = none ∧ Iv P h' ∧ (FX KAc h h')) 0 84 [(0, .ref 57), (1, .int l1), (2, .int l2), (3, .int l3)] [.int s0, .int s1, .ref 57] hx) ∧ (∀ (l1 : Int32) (l2 : Int32) (l3 : Int32) (hx : HP), Iv P hx → 0 ≤ l1.toInt → l1.toInt ≤ 9 → 0 ≤ l2.toInt → l2.toInt ≤ 39 → 0 ≤ l3.toInt → l3.toInt ≤ 1 → FX KAc h hx → (9 * (40 - l2.toInt) + 25 : Int) < n → Go l RX1 cX1_tieByValue 4 (g_rm (d + 3) 0 0) "tieByValue" none 117 0 0 (fun _ _ => True) (fun r h' => r = none ∧ Iv P h' ∧ (FX KAc h h')) 0 88 [(0, .ref 57), (1, .int l1), (2, .int l2), (3, .int l3)] [] hx) ∧ (∀ (l1 : Int32) (l2 : Int32) (hx : HP), Iv P hx → 0 ≤ l1.toInt → l1.toInt ≤ 9 → 0 ≤ l2.toInt → l2.toInt ≤ 39 → FX KAc h hx → (9 * (40 - l2.toInt) + 24 : Int) < n → Go l RX1 cX1_tieByValue 4 (g_rm (d + 3) 0 0) "tieByValue" none 117 0 0 (fun _ _ => True) (fun r h' => r = none ∧ Iv P h' ∧ (FX KAc h h')) 0 111 [(0, .ref 57), (1, .int l1), (2, .int l2)] [] hx) ∧ (∀ (l1 : Int32) (l2 : Int32) (hx : HP), Iv P hx → 6 ≤ l1.toInt → l1.toInt ≤ 9 → 0 ≤ l2.toInt → l2.toInt ≤ 5 → FX KAc h hx → (3 * (5 - l2.toInt) + 3 : Int) < n → Go l RX1 cX1_tieByValue 4 (g_rm (d + 3) 0 0) "tieByValue" none 117 0 0 (fun _ _ => True) (fun r h' => r = none ∧ Iv P h' ∧ (FX KAc h h')) 0 126 [(0, .ref 57), (1, .int l1), (2, .int l2)] [] hx) ∧ (∀  (hx : HP), Iv P hx → FX KAc h hx → (1 : Int) < n → Go l RX1 cX1_tieByValue 4 (g_rm (d + 3) 0 0) "tieByValue" none 117 0 0 (fun _ _ => True) (fun r h' => r = none ∧ Iv P h' ∧ (FX KAc h h')) 0 159 [] [] hx) := by
    intro n
    induction n with
    | zero => exact ⟨(by intros; omega), (by intros; omega), (by intros; omega), (by intros; omega), (by intros; omega), (by intros; omega), (by intros; omega), (by intros; omega), (by intros; omega)⟩
    | succ n ih =>
      refine ⟨?_, ?_, ?_, ?_, ?_, ?_, ?_, ?_, ?_⟩
      ·
        intro l1 l2 hx hvx l1l l1u l2l l2u fxx hm
        refine go_iload_n (pc := 2) rfl dX1_tieByValue_2 ?_
        refine go_aload_n (pc := 3) rfl dX1_tieByValue_3 ?_
        refine gi_getC (pc := 4) hvx fL_X1_30 rfl (Nat.le_of_ble_eq_true rfl) rfl (by decide) dX1_tieByValue_4 (fun c1 hc1 fc1 => ?_)
        refine gi_get (pc := 7) (lo := 0) (hi := 40) hvx fL_X1_62 (by rcases hc1 with rfl | rfl <;> rfl) (Nat.le_of_ble_eq_true rfl) rfl (by rcases hc1 with rfl | rfl <;> rfl) dX1_tieByValue_7 (fun v2 v2l v2u v2w => ?_)
        refine gf_icmp_ge (pc := 10) (tgt := 117) (ti_rfl l2) (ti_rfl v2) (by decide) dX1_tieByValue_10 (fun q3 => ?_) (fun q3 => ?_)
        ·
          refine go_iload_n (pc := 117) rfl dX1_tieByValue_117 ?_
          refine go_invS (pc := 118) (sl := 0) (s_X7_isField_f l (d + 1) hvx l1) mL_X1_107 iM_X7_isField rfl rfl (Nat.le_of_ble_eq_true rfl) (show d + 1 + 1 + 1 ≤ d + 3 by omega) (show 8 + (1 + 11) + 40 * (d + 1 + 1) ≤ 40 * (d + 3) by omega) (g_c0 hvx.ln) (Nat.le_of_ble_eq_true rfl) dX1_tieByValue_118 ?_
          intro r h4 hq _
          obtain ⟨v7, rfl, v7l, v7u, rfl, f8, f5, f6⟩ := hq
          refine gf_if_eq (pc := 121) (tgt := 159) (ti_rfl v7) (by decide) dX1_tieByValue_121 (fun q9 => ?_) (fun q9 => ?_)
          ·
            exact go_lv rfl (ih.2.2.2.2.2.2.2.2  hx hvx fxx (by omega))
          ·
            refine go_iconst (pc := 124) (v := 0) (by decide) dX1_tieByValue_124 ?_
            refine go_istore_n (pc := 125) (Nat.le_of_ble_eq_true rfl) dX1_tieByValue_125 (go_lv (lv2 := [(0, .ref 57), (1, .int l1), (2, .int 0)]) rfl ?_)
            have z10 : (0 : Int32).toInt = 0 := (ti_c (v := 0) (a := 0) (by decide))
            exact go_lv rfl (ih.2.2.2.2.2.2.2.1 l1 0 hx hvx (by omega) (by omega) (by omega) (by omega) fxx (by omega))
        ·
          refine go_aload_n (pc := 13) rfl dX1_tieByValue_13 ?_
          refine gi_getC (pc := 14) hvx fL_X1_30 rfl (Nat.le_of_ble_eq_true rfl) rfl (by decide) dX1_tieByValue_14 (fun c11 hc11 fc11 => ?_)
          refine gi_getF (pc := 17) (q := c11 + 2) hvx fL_X1_100 (by rcases hc11 with rfl | rfl <;> rfl) (Nat.le_of_ble_eq_true rfl) rfl (by rcases hc11 with rfl | rfl <;> exact hvx.rf (by decide)) dX1_tieByValue_17 ?_
          refine go_iload_n (pc := 20) rfl dX1_tieByValue_20 ?_
          refine gi_iald (pc := 21) (lo := 0) (hi := 5) (len := 40) hvx (ti_rfl l2) (by rcases hc11 with rfl | rfl <;> rfl) (by omega) (by omega) (fun _ => by rcases hc11 with rfl | rfl <;> rfl) dX1_tieByValue_21 (fun v12 v12l v12u v12w => ?_)
          refine go_iconst (pc := 22) (v := 1) (by decide) dX1_tieByValue_22 ?_
          refine gf_icmp_ne (pc := 23) (tgt := 30) (ti_rfl v12) (ti_c (v := 1) (a := 1) (by decide)) (by decide) dX1_tieByValue_23 (fun q13 => ?_) (fun q13 => ?_)
          ·
            refine go_iconst (pc := 30) (v := 0) (by decide) dX1_tieByValue_30 ?_
            have z14 : (0 : Int32).toInt = 0 := (ti_c (v := 0) (a := 0) (by decide))
            exact go_lv rfl (ih.2.1 l1 l2 0 hx hvx (by omega) (by omega) (by omega) (by omega) (by omega) (by omega) fxx (by omega))
          ·
            refine go_iconst (pc := 26) (v := 1) (by decide) dX1_tieByValue_26 ?_
            refine go_goto (pc := 27) (tgt := 31) (by decide) dX1_tieByValue_27 ?_
            have z15 : (1 : Int32).toInt = 1 := (ti_c (v := 1) (a := 1) (by decide))
            exact go_lv rfl (ih.2.1 l1 l2 1 hx hvx (by omega) (by omega) (by omega) (by omega) (by omega) (by omega) fxx (by omega))
      ·
        intro l1 l2 s0 hx hvx l1l l1u l2l l2u s0l s0u fxx hm
        refine go_istore_n (pc := 31) (Nat.le_of_ble_eq_true rfl) dX1_tieByValue_31 (go_lv (lv2 := [(0, .ref 57), (1, .int l1), (2, .int l2), (3, .int s0)]) rfl ?_)
        refine go_aload_n (pc := 32) rfl dX1_tieByValue_32 ?_
        refine gi_getC (pc := 33) hvx fL_X1_30 rfl (Nat.le_of_ble_eq_true rfl) rfl (by decide) dX1_tieByValue_33 (fun c16 hc16 fc16 => ?_)
        refine gi_getF (pc := 36) (q := c16 + 9) hvx fL_X1_127 (by rcases hc16 with rfl | rfl <;> rfl) (Nat.le_of_ble_eq_true rfl) rfl (by rcases hc16 with rfl | rfl <;> exact hvx.rf (by decide)) dX1_tieByValue_36 ?_
        refine go_iload_n (pc := 39) rfl dX1_tieByValue_39 ?_
        refine gi_iald (pc := 40) (lo := -2147483648) (hi := 2147483647) (len := 40) hvx (ti_rfl l2) (by rcases hc16 with rfl | rfl <;> rfl) (by omega) (by omega) (fun _ => by rcases hc16 with rfl | rfl <;> rfl) dX1_tieByValue_40 (fun v17 v17l v17u v17w => ?_)
        refine go_iload_n (pc := 41) rfl dX1_tieByValue_41 ?_
        refine gf_icmp_ne (pc := 42) (tgt := 60) (ti_rfl v17) (ti_rfl l1) (by decide) dX1_tieByValue_42 (fun q18 => ?_) (fun q18 => ?_)
        ·
          exact go_lv rfl (ih.2.2.2.1 l1 l2 s0 hx hvx (by omega) (by omega) (by omega) (by omega) (by omega) (by omega) fxx (by omega))
        ·
          refine go_aload_n (pc := 45) rfl dX1_tieByValue_45 ?_
          refine go_iload_n (pc := 46) rfl dX1_tieByValue_46 ?_
          refine go_iload_n (pc := 47) rfl dX1_tieByValue_47 ?_
          refine gf_if_eq (pc := 48) (tgt := 55) (ti_rfl s0) (by decide) dX1_tieByValue_48 (fun q19 => ?_) (fun q19 => ?_)
          ·
            refine go_iconst (pc := 55) (v := 0) (by decide) dX1_tieByValue_55 ?_
            have z20 : (0 : Int32).toInt = 0 := (ti_c (v := 0) (a := 0) (by decide))
            exact go_lv rfl (ih.2.2.1 l1 l2 s0 0 l2 hx hvx (by omega) (by omega) (by omega) (by omega) (by omega) (by omega) (by omega) (by omega) (by omega) (by omega) fxx (by omega))
          ·
            refine go_iconst (pc := 51) (v := 1) (by decide) dX1_tieByValue_51 ?_
            refine go_goto (pc := 52) (tgt := 56) (by decide) dX1_tieByValue_52 ?_
            have z21 : (1 : Int32).toInt = 1 := (ti_c (v := 1) (a := 1) (by decide))
            exact go_lv rfl (ih.2.2.1 l1 l2 s0 1 l2 hx hvx (by omega) (by omega) (by omega) (by omega) (by omega) (by omega) (by omega) (by omega) (by omega) (by omega) fxx (by omega))
      ·
        intro l1 l2 l3 s0 s1 hx hvx l1l l1u l2l l2u l3l l3u s0l s0u s1l s1u fxx hm
        refine go_iload_n (pc := 56) rfl dX1_tieByValue_56 ?_
        refine go_invV (pc := 57) (sl := 0) (s_X1_tieUse_f l (d + 0) hvx s1 (by rw [show (s1 : Int32).toInt = s1.toInt from (ti_rfl s1)]; omega) (by rw [show (s1 : Int32).toInt = s1.toInt from (ti_rfl s1)]; omega) s0 (by rw [show (s0 : Int32).toInt = s0.toInt from (ti_rfl s0)]; omega) (by rw [show (s0 : Int32).toInt = s0.toInt from (ti_rfl s0)]; omega) l1 (by rw [show (l1 : Int32).toInt = l1.toInt from (ti_rfl l1)]; omega) (by rw [show (l1 : Int32).toInt = l1.toInt from (ti_rfl l1)]; omega)) mL_X1_130 iM_X1_tieUse sM_X1_tieUse (hvx.sh rfl) rfl rfl rfl (Nat.le_of_ble_eq_true rfl) (show d + 0 + 2 + 1 ≤ d + 3 by omega) (show 8 + (8 + 11) + 40 * (d + 0 + 2) ≤ 40 * (d + 3) by omega) (g_c0 hvx.ln) (Nat.le_of_ble_eq_true rfl) dX1_tieByValue_57 ?_
        intro r h22 hq _
        obtain ⟨rfl, hv22, f23⟩ := hq
        have fx22 : FX KAc h h22 := FX.tr fxx f23
        exact go_lv rfl (ih.2.2.2.1 l1 l2 l3 h22 hv22 (by omega) (by omega) (by omega) (by omega) (by omega) (by omega) fx22 (by omega))
      ·
        intro l1 l2 l3 hx hvx l1l l1u l2l l2u l3l l3u fxx hm
        refine go_aload_n (pc := 60) rfl dX1_tieByValue_60 ?_
        refine gi_getC (pc := 61) hvx fL_X1_30 rfl (Nat.le_of_ble_eq_true rfl) rfl (by decide) dX1_tieByValue_61 (fun c24 hc24 fc24 => ?_)
        refine gi_getF (pc := 64) (q := c24 + 10) hvx fL_X1_134 (by rcases hc24 with rfl | rfl <;> rfl) (Nat.le_of_ble_eq_true rfl) rfl (by rcases hc24 with rfl | rfl <;> exact hvx.rf (by decide)) dX1_tieByValue_64 ?_
        refine go_iload_n (pc := 67) rfl dX1_tieByValue_67 ?_
        refine gi_iald (pc := 68) (lo := -2147483648) (hi := 2147483647) (len := 40) hvx (ti_rfl l2) (by rcases hc24 with rfl | rfl <;> rfl) (by omega) (by omega) (fun _ => by rcases hc24 with rfl | rfl <;> rfl) dX1_tieByValue_68 (fun v25 v25l v25u v25w => ?_)
        refine go_iload_n (pc := 69) rfl dX1_tieByValue_69 ?_
        refine gf_icmp_ne (pc := 70) (tgt := 88) (ti_rfl v25) (ti_rfl l1) (by decide) dX1_tieByValue_70 (fun q26 => ?_) (fun q26 => ?_)
        ·
          exact go_lv rfl (ih.2.2.2.2.2.1 l1 l2 l3 hx hvx (by omega) (by omega) (by omega) (by omega) (by omega) (by omega) fxx (by omega))
        ·
          refine go_aload_n (pc := 73) rfl dX1_tieByValue_73 ?_
          refine go_iload_n (pc := 74) rfl dX1_tieByValue_74 ?_
          refine go_iload_n (pc := 75) rfl dX1_tieByValue_75 ?_
          refine gf_if_eq (pc := 76) (tgt := 83) (ti_rfl l3) (by decide) dX1_tieByValue_76 (fun q27 => ?_) (fun q27 => ?_)
          ·
            refine go_iconst (pc := 83) (v := 0) (by decide) dX1_tieByValue_83 ?_
            have z28 : (0 : Int32).toInt = 0 := (ti_c (v := 0) (a := 0) (by decide))
            exact go_lv rfl (ih.2.2.2.2.1 l1 l2 l3 0 l2 hx hvx (by omega) (by omega) (by omega) (by omega) (by omega) (by omega) (by omega) (by omega) (by omega) (by omega) fxx (by omega))
          ·
            refine go_iconst (pc := 79) (v := 2) (by decide) dX1_tieByValue_79 ?_
            refine go_goto (pc := 80) (tgt := 84) (by decide) dX1_tieByValue_80 ?_
            have z29 : (2 : Int32).toInt = 2 := (ti_c (v := 2) (a := 2) (by decide))
            exact go_lv rfl (ih.2.2.2.2.1 l1 l2 l3 2 l2 hx hvx (by omega) (by omega) (by omega) (by omega) (by omega) (by omega) (by omega) (by omega) (by omega) (by omega) fxx (by omega))
      ·
        intro l1 l2 l3 s0 s1 hx hvx l1l l1u l2l l2u l3l l3u s0l s0u s1l s1u fxx hm
        refine go_iload_n (pc := 84) rfl dX1_tieByValue_84 ?_
        refine go_invV (pc := 85) (sl := 0) (s_X1_tieUse_f l (d + 0) hvx s1 (by rw [show (s1 : Int32).toInt = s1.toInt from (ti_rfl s1)]; omega) (by rw [show (s1 : Int32).toInt = s1.toInt from (ti_rfl s1)]; omega) s0 (by rw [show (s0 : Int32).toInt = s0.toInt from (ti_rfl s0)]; omega) (by rw [show (s0 : Int32).toInt = s0.toInt from (ti_rfl s0)]; omega) l1 (by rw [show (l1 : Int32).toInt = l1.toInt from (ti_rfl l1)]; omega) (by rw [show (l1 : Int32).toInt = l1.toInt from (ti_rfl l1)]; omega)) mL_X1_130 iM_X1_tieUse sM_X1_tieUse (hvx.sh rfl) rfl rfl rfl (Nat.le_of_ble_eq_true rfl) (show d + 0 + 2 + 1 ≤ d + 3 by omega) (show 8 + (8 + 11) + 40 * (d + 0 + 2) ≤ 40 * (d + 3) by omega) (g_c0 hvx.ln) (Nat.le_of_ble_eq_true rfl) dX1_tieByValue_85 ?_
        intro r h30 hq _
        obtain ⟨rfl, hv30, f31⟩ := hq
        have fx30 : FX KAc h h30 := FX.tr fxx f31
        exact go_lv rfl (ih.2.2.2.2.2.1 l1 l2 l3 h30 hv30 (by omega) (by omega) (by omega) (by omega) (by omega) (by omega) fx30 (by omega))
      ·
        intro l1 l2 l3 hx hvx l1l l1u l2l l2u l3l l3u fxx hm
        refine go_iload_n (pc := 88) rfl dX1_tieByValue_88 ?_
        refine gf_if_eq (pc := 89) (tgt := 111) (ti_rfl l3) (by decide) dX1_tieByValue_89 (fun q32 => ?_) (fun q32 => ?_)
        ·
          exact go_lv rfl (ih.2.2.2.2.2.2.1 l1 l2 hx hvx (by omega) (by omega) (by omega) (by omega) fxx (by omega))
        ·
          refine go_iload_n (pc := 92) rfl dX1_tieByValue_92 ?_
          refine go_invS (pc := 93) (sl := 0) (s_X7_isField_f l (d + 1) hvx l1) mL_X1_107 iM_X7_isField rfl rfl (Nat.le_of_ble_eq_true rfl) (show d + 1 + 1 + 1 ≤ d + 3 by omega) (show 8 + (1 + 11) + 40 * (d + 1 + 1) ≤ 40 * (d + 3) by omega) (g_c0 hvx.ln) (Nat.le_of_ble_eq_true rfl) dX1_tieByValue_93 ?_
          intro r h33 hq _
          obtain ⟨v36, rfl, v36l, v36u, rfl, f37, f34, f35⟩ := hq
          refine gf_if_eq (pc := 96) (tgt := 111) (ti_rfl v36) (by decide) dX1_tieByValue_96 (fun q38 => ?_) (fun q38 => ?_)
          ·
            exact go_lv rfl (ih.2.2.2.2.2.2.1 l1 l2 hx hvx (by omega) (by omega) (by omega) (by omega) fxx (by omega))
          ·
            refine go_aload_n (pc := 99) rfl dX1_tieByValue_99 ?_
            refine go_iload_n (pc := 100) rfl dX1_tieByValue_100 ?_
            refine go_iconst (pc := 101) (v := 1) (by decide) dX1_tieByValue_101 ?_
            refine go_iload_n (pc := 102) rfl dX1_tieByValue_102 ?_
            refine go_invS (pc := 103) (sl := 0) (s_X7_portOfField l (d + 1) hvx l1 (by rw [show (l1 : Int32).toInt = l1.toInt from (ti_rfl l1)]; omega) (by rw [show (l1 : Int32).toInt = l1.toInt from (ti_rfl l1)]; omega)) mL_X1_137 iM_X7_portOfField rfl rfl (Nat.le_of_ble_eq_true rfl) (show d + 1 + 1 + 1 ≤ d + 3 by omega) (show 8 + (1 + 11) + 40 * (d + 1 + 1) ≤ 40 * (d + 3) by omega) (g_c0 hvx.ln) (Nat.le_of_ble_eq_true rfl) dX1_tieByValue_103 ?_
            intro r h39 hq _
            obtain ⟨v40, rfl, v40l, v40u, rfl⟩ := hq
            refine gf_iadd (pc := 106) (ti_c (v := 1) (a := 1) (by decide)) (ti_rfl v40) (by omega) (by omega) dX1_tieByValue_106 (fun v41 e42 => ?_)
            refine go_iload_n (pc := 107) rfl dX1_tieByValue_107 ?_
            refine go_invV (pc := 108) (sl := 0) (s_X1_tieUse_f l (d + 0) hvx l2 (by rw [show (l2 : Int32).toInt = l2.toInt from (ti_rfl l2)]; omega) (by rw [show (l2 : Int32).toInt = l2.toInt from (ti_rfl l2)]; omega) v41 (by rw [show (v41 : Int32).toInt = (1 + v40.toInt) from e42]; omega) (by rw [show (v41 : Int32).toInt = (1 + v40.toInt) from e42]; omega) l1 (by rw [show (l1 : Int32).toInt = l1.toInt from (ti_rfl l1)]; omega) (by rw [show (l1 : Int32).toInt = l1.toInt from (ti_rfl l1)]; omega)) mL_X1_130 iM_X1_tieUse sM_X1_tieUse (hvx.sh rfl) rfl rfl rfl (Nat.le_of_ble_eq_true rfl) (show d + 0 + 2 + 1 ≤ d + 3 by omega) (show 8 + (8 + 11) + 40 * (d + 0 + 2) ≤ 40 * (d + 3) by omega) (g_c0 hvx.ln) (Nat.le_of_ble_eq_true rfl) dX1_tieByValue_108 ?_
            intro r h43 hq _
            obtain ⟨rfl, hv43, f44⟩ := hq
            try rw [show (v41 : Int32).toInt = (1 + v40.toInt) from e42] at f44
            have fx43 : FX KAc h h43 := FX.tr fxx f44
            exact go_lv rfl (ih.2.2.2.2.2.2.1 l1 l2 h43 hv43 (by omega) (by omega) (by omega) (by omega) fx43 (by omega))
      ·
        intro l1 l2 hx hvx l1l l1u l2l l2u fxx hm
        refine gf_iinc (pc := 111) (Nat.le_of_ble_eq_true rfl) rfl (ti_rfl l2) (ti_c (by decide)) (by omega) (by omega) dX1_tieByValue_111 (fun v45 e46 => ?_)
        refine go_lv (lv2 := [(0, .ref 57), (1, .int l1), (2, .int v45)]) rfl ?_
        refine go_goto (pc := 114) (tgt := 2) (by decide) dX1_tieByValue_114 ?_
        have z47 : (v45 : Int32).toInt = (l2.toInt + 1) := e46
        exact go_lv rfl (ih.1 l1 v45 hx hvx (by omega) (by omega) (by omega) (by omega) fxx (by omega))
      ·
        intro l1 l2 hx hvx l1l l1u l2l l2u fxx hm
        refine go_iload_n (pc := 126) rfl dX1_tieByValue_126 ?_
        refine go_aload_n (pc := 127) rfl dX1_tieByValue_127 ?_
        refine gi_getC (pc := 128) hvx fL_X1_30 rfl (Nat.le_of_ble_eq_true rfl) rfl (by decide) dX1_tieByValue_128 (fun c48 hc48 fc48 => ?_)
        refine gi_get (pc := 131) (lo := 0) (hi := 5) hvx fL_X1_90 (by rcases hc48 with rfl | rfl <;> rfl) (Nat.le_of_ble_eq_true rfl) rfl (by rcases hc48 with rfl | rfl <;> rfl) dX1_tieByValue_131 (fun v49 v49l v49u v49w => ?_)
        refine gf_icmp_ge (pc := 134) (tgt := 159) (ti_rfl l2) (ti_rfl v49) (by decide) dX1_tieByValue_134 (fun q50 => ?_) (fun q50 => ?_)
        ·
          exact go_lv rfl (ih.2.2.2.2.2.2.2.2  hx hvx fxx (by omega))
        ·
          refine go_aload_n (pc := 137) rfl dX1_tieByValue_137 ?_
          refine go_bipush (pc := 138) (v := 40) (by decide) dX1_tieByValue_138 ?_
          refine go_iload_n (pc := 140) rfl dX1_tieByValue_140 ?_
          refine gf_iadd (pc := 141) (ti_c (v := 40) (a := 40) (by decide)) (ti_rfl l2) (by omega) (by omega) dX1_tieByValue_141 (fun v51 e52 => ?_)
          refine go_bipush (pc := 142) (v := 7) (by decide) dX1_tieByValue_142 ?_
          refine go_iload_n (pc := 144) rfl dX1_tieByValue_144 ?_
          refine go_invS (pc := 145) (sl := 0) (s_X7_portOfField l (d + 1) hvx l1 (by rw [show (l1 : Int32).toInt = l1.toInt from (ti_rfl l1)]; omega) (by rw [show (l1 : Int32).toInt = l1.toInt from (ti_rfl l1)]; omega)) mL_X1_137 iM_X7_portOfField rfl rfl (Nat.le_of_ble_eq_true rfl) (show d + 1 + 1 + 1 ≤ d + 3 by omega) (show 8 + (1 + 11) + 40 * (d + 1 + 1) ≤ 40 * (d + 3) by omega) (g_c0 hvx.ln) (Nat.le_of_ble_eq_true rfl) dX1_tieByValue_145 ?_
          intro r h53 hq _
          obtain ⟨v54, rfl, v54l, v54u, rfl⟩ := hq
          refine gf_iadd (pc := 148) (ti_c (v := 7) (a := 7) (by decide)) (ti_rfl v54) (by omega) (by omega) dX1_tieByValue_148 (fun v55 e56 => ?_)
          refine go_iload_n (pc := 149) rfl dX1_tieByValue_149 ?_
          refine go_invV (pc := 150) (sl := 0) (s_X1_tieUse_f l (d + 0) hvx v51 (by rw [show (v51 : Int32).toInt = (40 + l2.toInt) from e52]; omega) (by rw [show (v51 : Int32).toInt = (40 + l2.toInt) from e52]; omega) v55 (by rw [show (v55 : Int32).toInt = (7 + v54.toInt) from e56]; omega) (by rw [show (v55 : Int32).toInt = (7 + v54.toInt) from e56]; omega) l1 (by rw [show (l1 : Int32).toInt = l1.toInt from (ti_rfl l1)]; omega) (by rw [show (l1 : Int32).toInt = l1.toInt from (ti_rfl l1)]; omega)) mL_X1_130 iM_X1_tieUse sM_X1_tieUse (hvx.sh rfl) rfl rfl rfl (Nat.le_of_ble_eq_true rfl) (show d + 0 + 2 + 1 ≤ d + 3 by omega) (show 8 + (8 + 11) + 40 * (d + 0 + 2) ≤ 40 * (d + 3) by omega) (g_c0 hvx.ln) (Nat.le_of_ble_eq_true rfl) dX1_tieByValue_150 ?_
          intro r h57 hq _
          obtain ⟨rfl, hv57, f58⟩ := hq
          try rw [show (v51 : Int32).toInt = (40 + l2.toInt) from e52] at f58
          try rw [show (v55 : Int32).toInt = (7 + v54.toInt) from e56] at f58
          have fx57 : FX KAc h h57 := FX.tr fxx f58
          refine gf_iinc (pc := 153) (Nat.le_of_ble_eq_true rfl) rfl (ti_rfl l2) (ti_c (by decide)) (by omega) (by omega) dX1_tieByValue_153 (fun v59 e60 => ?_)
          refine go_lv (lv2 := [(0, .ref 57), (1, .int l1), (2, .int v59)]) rfl ?_
          refine go_goto (pc := 156) (tgt := 126) (by decide) dX1_tieByValue_156 ?_
          have z61 : (v59 : Int32).toInt = (l2.toInt + 1) := e60
          exact go_lv rfl (ih.2.2.2.2.2.2.2.1 l1 v59 h57 hv57 (by omega) (by omega) (by omega) (by omega) fx57 (by omega))
      ·
        intro hx hvx fxx hm
        exact gi_vret (pc := 159) ⟨rfl, hvx, fxx⟩ hvx dX1_tieByValue_159
  refine go_iconst (pc := 0) (v := 0) (by decide) dX1_tieByValue_0 ?_
  refine go_istore_n (pc := 1) (Nat.le_of_ble_eq_true rfl) dX1_tieByValue_1 (go_lv (lv2 := [(0, .ref 57), (1, .int a2), (2, .int 0)]) rfl ?_)
  have z62 : (0 : Int32).toInt = 0 := (ti_c (v := 0) (a := 0) (by decide))
  exact go_lv rfl ((key 413).1 a2 0 h hv (by omega) (by omega) (by omega) (by omega) fx (by omega))
set_option maxHeartbeats 4000000 in
set_option maxRecDepth 100000 in
theorem s_X1_tieEnds_f (l : Launch) (d : Nat) {P : PP} {h : HP} (hv : Iv P h)  : Mt l yX1_tieEnds cX1_tieEnds 4 none (d + 3) [.ref 57] h 0 0 (fun r h' => r = none ∧ Iv P h' ∧ (FX KAc h h')) := by
  refine Mt_iv hv (by decide) (Nat.le_of_ble_eq_true rfl) ?_
  show Go l RX1 cX1_tieEnds 4 (g_rm (d + 3) 0 0) "tieEnds" none 117 0 0 (fun _ _ => True) (fun r h' => r = none ∧ Iv P h' ∧ (FX KAc h h')) 0 0 [(0, .ref 57)] [] h
  have fx : FX KAc h h := FX.rfl
  have key : ∀ n : Nat, (∀ (l1 : Int32) (hx : HP), Iv P hx → 0 ≤ l1.toInt → l1.toInt ≤ 40 → FX KAc h hx → (8 * (40 - l1.toInt) + 7 : Int) < n → Go l RX1 cX1_tieEnds 4 (g_rm (d + 3) 0 0) "tieEnds" none 117 0 0 (fun _ _ => True) (fun r h' => r = none ∧ Iv P h' ∧ (FX KAc h h')) 0 2 [(0, .ref 57), (1, .int l1)] [] hx) ∧ (∀ (l1 : Int32) (hx : HP), Iv P hx → 0 ≤ l1.toInt → l1.toInt ≤ 39 → FX KAc h hx → (8 * (40 - l1.toInt) + 6 : Int) < n → Go l RX1 cX1_tieEnds 4 (g_rm (d + 3) 0 0) "tieEnds" none 117 0 0 (fun _ _ => True) (fun r h' => r = none ∧ Iv P h' ∧ (FX KAc h h')) 0 40 [(0, .ref 57), (1, .int l1)] [] hx) ∧ (∀ (l1 : Int32) (s0 : Int32) (hx : HP), Iv P hx → 0 ≤ l1.toInt → l1.toInt ≤ 39 → 0 ≤ s0.toInt → s0.toInt ≤ 1 → FX KAc h hx → (8 * (40 - l1.toInt) + 5 : Int) < n → Go l RX1 cX1_tieEnds 4 (g_rm (d + 3) 0 0) "tieEnds" none 117 0 0 (fun _ _ => True) (fun r h' => r = none ∧ Iv P h' ∧ (FX KAc h h')) 0 58 [(0, .ref 57), (1, .int l1)] [.int s0] hx) ∧ (∀ (l1 : Int32) (l2 : Int32) (l3 : Int32) (s0 : Int32) (s1 : Int32) (s2 : Int32) (hx : HP), Iv P hx → 0 ≤ l1.toInt → l1.toInt ≤ 39 → 0 ≤ l2.toInt → l2.toInt ≤ 1 → -1 ≤ l3.toInt → l3.toInt ≤ 4 → 0 ≤ s0.toInt → s0.toInt ≤ 7 → 7 ≤ s1.toInt → s1.toInt ≤ 7 → 39 ≤ s2.toInt → s2.toInt ≤ 44 → FX KAc h hx → (8 * (40 - l1.toInt) + 4 : Int) < n → Go l RX1 cX1_tieEnds 4 (g_rm (d + 3) 0 0) "tieEnds" none 117 0 0 (fun _ _ => True) (fun r h' => r = none ∧ Iv P h' ∧ (FX KAc h h')) 0 86 [(0, .ref 57), (1, .int l1), (2, .int l2), (3, .int l3)] [.int s0, .int s1, .int s2, .ref 57] hx) ∧ (∀ (l1 : Int32) (s0 : Int32) (s1 : Int32) (s2 : Int32) (hx : HP), Iv P hx → 0 ≤ l1.toInt → l1.toInt ≤ 39 → 0 ≤ s0.toInt → s0.toInt ≤ 8 → 8 ≤ s1.toInt → s1.toInt ≤ 8 → 39 ≤ s2.toInt → s2.toInt ≤ 44 → FX KAc h hx → (8 * (40 - l1.toInt) + 3 : Int) < n → Go l RX1 cX1_tieEnds 4 (g_rm (d + 3) 0 0) "tieEnds" none 117 0 0 (fun _ _ => True) (fun r h' => r = none ∧ Iv P h' ∧ (FX KAc h h')) 0 125 [(0, .ref 57), (1, .int l1)] [.int s0, .int s1, .int s2, .ref 57] hx) ∧ (∀ (l1 : Int32) (hx : HP), Iv P hx → 0 ≤ l1.toInt → l1.toInt ≤ 39 → FX KAc h hx → (8 * (40 - l1.toInt) + 2 : Int) < n → Go l RX1 cX1_tieEnds 4 (g_rm (d + 3) 0 0) "tieEnds" none 117 0 0 (fun _ _ => True) (fun r h' => r = none ∧ Iv P h' ∧ (FX KAc h h')) 0 132 [(0, .ref 57), (1, .int l1)] [] hx) := by
    intro n
    induction n with
    | zero => exact ⟨(by intros; omega), (by intros; omega), (by intros; omega), (by intros; omega), (by intros; omega), (by intros; omega)⟩
    | succ n ih =>
      refine ⟨?_, ?_, ?_, ?_, ?_, ?_⟩
      ·
        intro l1 hx hvx l1l l1u fxx hm
        refine go_iload_n (pc := 2) rfl dX1_tieEnds_2 ?_
        refine go_aload_n (pc := 3) rfl dX1_tieEnds_3 ?_
        refine gi_getC (pc := 4) hvx fL_X1_30 rfl (Nat.le_of_ble_eq_true rfl) rfl (by decide) dX1_tieEnds_4 (fun c1 hc1 fc1 => ?_)
        refine gi_get (pc := 7) (lo := 0) (hi := 40) hvx fL_X1_62 (by rcases hc1 with rfl | rfl <;> rfl) (Nat.le_of_ble_eq_true rfl) rfl (by rcases hc1 with rfl | rfl <;> rfl) dX1_tieEnds_7 (fun v2 v2l v2u v2w => ?_)
        refine gf_icmp_ge (pc := 10) (tgt := 138) (ti_rfl l1) (ti_rfl v2) (by decide) dX1_tieEnds_10 (fun q3 => ?_) (fun q3 => ?_)
        ·
          exact gi_vret (pc := 138) ⟨rfl, hvx, fxx⟩ hvx dX1_tieEnds_138
        ·
          refine go_aload_n (pc := 13) rfl dX1_tieEnds_13 ?_
          refine gi_getC (pc := 14) hvx fL_X1_30 rfl (Nat.le_of_ble_eq_true rfl) rfl (by decide) dX1_tieEnds_14 (fun c4 hc4 fc4 => ?_)
          refine gi_getF (pc := 17) (q := c4 + 2) hvx fL_X1_100 (by rcases hc4 with rfl | rfl <;> rfl) (Nat.le_of_ble_eq_true rfl) rfl (by rcases hc4 with rfl | rfl <;> exact hvx.rf (by decide)) dX1_tieEnds_17 ?_
          refine go_iload_n (pc := 20) rfl dX1_tieEnds_20 ?_
          refine gi_iald (pc := 21) (lo := 0) (hi := 5) (len := 40) hvx (ti_rfl l1) (by rcases hc4 with rfl | rfl <;> rfl) (by omega) (by omega) (fun _ => by rcases hc4 with rfl | rfl <;> rfl) dX1_tieEnds_21 (fun v5 v5l v5u v5w => ?_)
          refine go_iconst (pc := 22) (v := 5) (by decide) dX1_tieEnds_22 ?_
          refine gf_icmp_eq (pc := 23) (tgt := 40) (ti_rfl v5) (ti_c (v := 5) (a := 5) (by decide)) (by decide) dX1_tieEnds_23 (fun q6 => ?_) (fun q6 => ?_)
          ·
            exact go_lv rfl (ih.2.1 l1 hx hvx (by omega) (by omega) fxx (by omega))
          ·
            refine go_aload_n (pc := 26) rfl dX1_tieEnds_26 ?_
            refine gi_getC (pc := 27) hvx fL_X1_30 rfl (Nat.le_of_ble_eq_true rfl) rfl (by decide) dX1_tieEnds_27 (fun c7 hc7 fc7 => ?_)
            refine go_iload_n (pc := 30) rfl dX1_tieEnds_30 ?_
            refine go_invV (pc := 31) (sl := 0) (s_X0_escapes_f l (d + 0) hvx c7 hc7 l1 (by rw [show (l1 : Int32).toInt = l1.toInt from (ti_rfl l1)]; omega) (by rw [show (l1 : Int32).toInt = l1.toInt from (ti_rfl l1)]; omega)) mL_X1_149 iM_X0_escapes sM_X0_escapes (hvx.sh (by rcases hc7 with rfl | rfl <;> rfl)) rfl rfl rfl (Nat.le_of_ble_eq_true rfl) (show d + 0 + 2 + 1 ≤ d + 3 by omega) (show 8 + (2 + 11) + 40 * (d + 0 + 2) ≤ 40 * (d + 3) by omega) (g_c0 hvx.ln) (Nat.le_of_ble_eq_true rfl) dX1_tieEnds_31 ?_
            intro r h8 hq _
            obtain ⟨v10, rfl, v10l, v10u, rfl, f9⟩ := hq
            refine gf_if_ne (pc := 34) (tgt := 40) (ti_rfl v10) (by decide) dX1_tieEnds_34 (fun q11 => ?_) (fun q11 => ?_)
            ·
              exact go_lv rfl (ih.2.1 l1 hx hvx (by omega) (by omega) fxx (by omega))
            ·
              refine go_goto (pc := 37) (tgt := 132) (by decide) dX1_tieEnds_37 ?_
              exact go_lv rfl (ih.2.2.2.2.2 l1 hx hvx (by omega) (by omega) fxx (by omega))
      ·
        intro l1 hx hvx l1l l1u fxx hm
        refine go_aload_n (pc := 40) rfl dX1_tieEnds_40 ?_
        refine gi_getC (pc := 41) hvx fL_X1_30 rfl (Nat.le_of_ble_eq_true rfl) rfl (by decide) dX1_tieEnds_41 (fun c12 hc12 fc12 => ?_)
        refine gi_getF (pc := 44) (q := c12 + 2) hvx fL_X1_100 (by rcases hc12 with rfl | rfl <;> rfl) (Nat.le_of_ble_eq_true rfl) rfl (by rcases hc12 with rfl | rfl <;> exact hvx.rf (by decide)) dX1_tieEnds_44 ?_
        refine go_iload_n (pc := 47) rfl dX1_tieEnds_47 ?_
        refine gi_iald (pc := 48) (lo := 0) (hi := 5) (len := 40) hvx (ti_rfl l1) (by rcases hc12 with rfl | rfl <;> rfl) (by omega) (by omega) (fun _ => by rcases hc12 with rfl | rfl <;> rfl) dX1_tieEnds_48 (fun v13 v13l v13u v13w => ?_)
        refine go_iconst (pc := 49) (v := 1) (by decide) dX1_tieEnds_49 ?_
        refine gf_icmp_ne (pc := 50) (tgt := 57) (ti_rfl v13) (ti_c (v := 1) (a := 1) (by decide)) (by decide) dX1_tieEnds_50 (fun q14 => ?_) (fun q14 => ?_)
        ·
          refine go_iconst (pc := 57) (v := 0) (by decide) dX1_tieEnds_57 ?_
          have z15 : (0 : Int32).toInt = 0 := (ti_c (v := 0) (a := 0) (by decide))
          exact go_lv rfl (ih.2.2.1 l1 0 hx hvx (by omega) (by omega) (by omega) (by omega) fxx (by omega))
        ·
          refine go_iconst (pc := 53) (v := 1) (by decide) dX1_tieEnds_53 ?_
          refine go_goto (pc := 54) (tgt := 58) (by decide) dX1_tieEnds_54 ?_
          have z16 : (1 : Int32).toInt = 1 := (ti_c (v := 1) (a := 1) (by decide))
          exact go_lv rfl (ih.2.2.1 l1 1 hx hvx (by omega) (by omega) (by omega) (by omega) fxx (by omega))
      ·
        intro l1 s0 hx hvx l1l l1u s0l s0u fxx hm
        refine go_istore_n (pc := 58) (Nat.le_of_ble_eq_true rfl) dX1_tieEnds_58 (go_lv (lv2 := [(0, .ref 57), (1, .int l1), (2, .int s0)]) rfl ?_)
        refine go_aload_n (pc := 59) rfl dX1_tieEnds_59 ?_
        refine gi_getC (pc := 60) hvx fL_X1_30 rfl (Nat.le_of_ble_eq_true rfl) rfl (by decide) dX1_tieEnds_60 (fun c17 hc17 fc17 => ?_)
        refine gi_getF (pc := 63) (q := c17 + 3) hvx fL_X1_152 (by rcases hc17 with rfl | rfl <;> rfl) (Nat.le_of_ble_eq_true rfl) rfl (by rcases hc17 with rfl | rfl <;> exact hvx.rf (by decide)) dX1_tieEnds_63 ?_
        refine go_iload_n (pc := 66) rfl dX1_tieEnds_66 ?_
        refine gi_iald (pc := 67) (lo := -1) (hi := 4) (len := 40) hvx (ti_rfl l1) (by rcases hc17 with rfl | rfl <;> rfl) (by omega) (by omega) (fun _ => by rcases hc17 with rfl | rfl <;> rfl) dX1_tieEnds_67 (fun v18 v18l v18u v18w => ?_)
        refine go_istore_n (pc := 68) (Nat.le_of_ble_eq_true rfl) dX1_tieEnds_68 (go_lv (lv2 := [(0, .ref 57), (1, .int l1), (2, .int s0), (3, .int v18)]) rfl ?_)
        refine go_aload_n (pc := 69) rfl dX1_tieEnds_69 ?_
        refine go_bipush (pc := 70) (v := 40) (by decide) dX1_tieEnds_70 ?_
        refine go_iload_n (pc := 72) rfl dX1_tieEnds_72 ?_
        refine gf_iadd (pc := 73) (ti_c (v := 40) (a := 40) (by decide)) (ti_rfl v18) (by omega) (by omega) dX1_tieEnds_73 (fun v19 e20 => ?_)
        refine go_bipush (pc := 74) (v := 7) (by decide) dX1_tieEnds_74 ?_
        refine go_iload_n (pc := 76) rfl dX1_tieEnds_76 ?_
        refine gf_if_eq (pc := 77) (tgt := 85) (ti_rfl s0) (by decide) dX1_tieEnds_77 (fun q21 => ?_) (fun q21 => ?_)
        ·
          refine go_iconst (pc := 85) (v := 0) (by decide) dX1_tieEnds_85 ?_
          have z22 : (0 : Int32).toInt = 0 := (ti_c (v := 0) (a := 0) (by decide))
          have z23 : (7 : Int32).toInt = 7 := (ti_c (v := 7) (a := 7) (by decide))
          have z24 : (v19 : Int32).toInt = (40 + v18.toInt) := e20
          exact go_lv rfl (ih.2.2.2.1 l1 s0 v18 0 7 v19 hx hvx (by omega) (by omega) (by omega) (by omega) (by omega) (by omega) (by omega) (by omega) (by omega) (by omega) (by omega) (by omega) fxx (by omega))
        ·
          refine go_bipush (pc := 80) (v := 7) (by decide) dX1_tieEnds_80 ?_
          refine go_goto (pc := 82) (tgt := 86) (by decide) dX1_tieEnds_82 ?_
          have z25 : (7 : Int32).toInt = 7 := (ti_c (v := 7) (a := 7) (by decide))
          have z26 : (7 : Int32).toInt = 7 := (ti_c (v := 7) (a := 7) (by decide))
          have z27 : (v19 : Int32).toInt = (40 + v18.toInt) := e20
          exact go_lv rfl (ih.2.2.2.1 l1 s0 v18 7 7 v19 hx hvx (by omega) (by omega) (by omega) (by omega) (by omega) (by omega) (by omega) (by omega) (by omega) (by omega) (by omega) (by omega) fxx (by omega))
      ·
        intro l1 l2 l3 s0 s1 s2 hx hvx l1l l1u l2l l2u l3l l3u s0l s0u s1l s1u s2l s2u fxx hm
        refine go_iload_n (pc := 86) rfl dX1_tieEnds_86 ?_
        refine go_invS (pc := 87) (sl := 0) (s_X7_bit_f l (d + 1) hvx l1) mL_X1_79 iM_X7_bit rfl rfl (Nat.le_of_ble_eq_true rfl) (show d + 1 + 1 + 1 ≤ d + 3 by omega) (show 8 + (1 + 11) + 40 * (d + 1 + 1) ≤ 40 * (d + 3) by omega) (g_c0 hvx.ln) (Nat.le_of_ble_eq_true rfl) dX1_tieEnds_87 ?_
        intro r h28 hq _
        obtain ⟨v30, rfl, rfl, f29⟩ := hq
        refine go_invV (pc := 90) (sl := 0) (s_X1_tie_f l (d + 1) hvx s2 (by rw [show (s2 : Int32).toInt = s2.toInt from (ti_rfl s2)]; omega) (by rw [show (s2 : Int32).toInt = s2.toInt from (ti_rfl s2)]; omega) s1 (by rw [show (s1 : Int32).toInt = s1.toInt from (ti_rfl s1)]; omega) (by rw [show (s1 : Int32).toInt = s1.toInt from (ti_rfl s1)]; omega) s0 (by rw [show (s0 : Int32).toInt = s0.toInt from (ti_rfl s0)]; omega) (by rw [show (s0 : Int32).toInt = s0.toInt from (ti_rfl s0)]; omega) v30) mL_X1_103 iM_X1_tie sM_X1_tie (hvx.sh rfl) rfl rfl rfl (Nat.le_of_ble_eq_true rfl) (show d + 1 + 1 + 1 ≤ d + 3 by omega) (show 8 + (6 + 11) + 40 * (d + 1 + 1) ≤ 40 * (d + 3) by omega) (g_c0 hvx.ln) (Nat.le_of_ble_eq_true rfl) dX1_tieEnds_90 ?_
        intro r h31 hq _
        obtain ⟨rfl, hv31, f32⟩ := hq
        have fx31 : FX KAc h h31 := FX.tr fxx f32
        refine go_aload_n (pc := 93) rfl dX1_tieEnds_93 ?_
        refine gi_getC (pc := 94) hv31 fL_X1_30 rfl (Nat.le_of_ble_eq_true rfl) rfl (by decide) dX1_tieEnds_94 (fun c33 hc33 fc33 => ?_)
        refine gi_get (pc := 97) (lo := -2147483648) (hi := 2147483647) hv31 fL_X1_155 (by rcases hc33 with rfl | rfl <;> rfl) (Nat.le_of_ble_eq_true rfl) rfl (by rcases hc33 with rfl | rfl <;> rfl) dX1_tieEnds_97 (fun v34 v34l v34u v34w => ?_)
        refine gu_i2l (pc := 100) dX1_tieEnds_100 (fun v35 => ?_)
        refine go_iload_n (pc := 101) rfl dX1_tieEnds_101 ?_
        refine go_invS (pc := 102) (sl := 0) (s_X7_has_f l (d + 1) hv31 v35 l3) mL_X1_56 iM_X7_has rfl rfl (Nat.le_of_ble_eq_true rfl) (show d + 1 + 1 + 1 ≤ d + 3 by omega) (show 8 + (3 + 11) + 40 * (d + 1 + 1) ≤ 40 * (d + 3) by omega) (g_c0 hv31.ln) (Nat.le_of_ble_eq_true rfl) dX1_tieEnds_102 ?_
        intro r h36 hq _
        obtain ⟨v38, rfl, v38l, v38u, rfl, f37⟩ := hq
        refine gf_if_eq (pc := 105) (tgt := 132) (ti_rfl v38) (by decide) dX1_tieEnds_105 (fun q39 => ?_) (fun q39 => ?_)
        ·
          exact go_lv rfl (ih.2.2.2.2.2 l1 h31 hv31 (by omega) (by omega) fx31 (by omega))
        ·
          refine go_aload_n (pc := 108) rfl dX1_tieEnds_108 ?_
          refine go_bipush (pc := 109) (v := 40) (by decide) dX1_tieEnds_109 ?_
          refine go_iload_n (pc := 111) rfl dX1_tieEnds_111 ?_
          refine gf_iadd (pc := 112) (ti_c (v := 40) (a := 40) (by decide)) (ti_rfl l3) (by omega) (by omega) dX1_tieEnds_112 (fun v40 e41 => ?_)
          refine go_bipush (pc := 113) (v := 8) (by decide) dX1_tieEnds_113 ?_
          refine go_iload_n (pc := 115) rfl dX1_tieEnds_115 ?_
          refine gf_if_eq (pc := 116) (tgt := 124) (ti_rfl l2) (by decide) dX1_tieEnds_116 (fun q42 => ?_) (fun q42 => ?_)
          ·
            refine go_iconst (pc := 124) (v := 0) (by decide) dX1_tieEnds_124 ?_
            have z43 : (0 : Int32).toInt = 0 := (ti_c (v := 0) (a := 0) (by decide))
            have z44 : (8 : Int32).toInt = 8 := (ti_c (v := 8) (a := 8) (by decide))
            have z45 : (v40 : Int32).toInt = (40 + l3.toInt) := e41
            exact go_lv rfl (ih.2.2.2.2.1 l1 0 8 v40 h31 hv31 (by omega) (by omega) (by omega) (by omega) (by omega) (by omega) (by omega) (by omega) fx31 (by omega))
          ·
            refine go_bipush (pc := 119) (v := 8) (by decide) dX1_tieEnds_119 ?_
            refine go_goto (pc := 121) (tgt := 125) (by decide) dX1_tieEnds_121 ?_
            have z46 : (8 : Int32).toInt = 8 := (ti_c (v := 8) (a := 8) (by decide))
            have z47 : (8 : Int32).toInt = 8 := (ti_c (v := 8) (a := 8) (by decide))
            have z48 : (v40 : Int32).toInt = (40 + l3.toInt) := e41
            exact go_lv rfl (ih.2.2.2.2.1 l1 8 8 v40 h31 hv31 (by omega) (by omega) (by omega) (by omega) (by omega) (by omega) (by omega) (by omega) fx31 (by omega))
      ·
        intro l1 s0 s1 s2 hx hvx l1l l1u s0l s0u s1l s1u s2l s2u fxx hm
        refine go_iload_n (pc := 125) rfl dX1_tieEnds_125 ?_
        refine go_invS (pc := 126) (sl := 0) (s_X7_bit_f l (d + 1) hvx l1) mL_X1_79 iM_X7_bit rfl rfl (Nat.le_of_ble_eq_true rfl) (show d + 1 + 1 + 1 ≤ d + 3 by omega) (show 8 + (1 + 11) + 40 * (d + 1 + 1) ≤ 40 * (d + 3) by omega) (g_c0 hvx.ln) (Nat.le_of_ble_eq_true rfl) dX1_tieEnds_126 ?_
        intro r h49 hq _
        obtain ⟨v51, rfl, rfl, f50⟩ := hq
        refine go_invV (pc := 129) (sl := 0) (s_X1_tie_f l (d + 1) hvx s2 (by rw [show (s2 : Int32).toInt = s2.toInt from (ti_rfl s2)]; omega) (by rw [show (s2 : Int32).toInt = s2.toInt from (ti_rfl s2)]; omega) s1 (by rw [show (s1 : Int32).toInt = s1.toInt from (ti_rfl s1)]; omega) (by rw [show (s1 : Int32).toInt = s1.toInt from (ti_rfl s1)]; omega) s0 (by rw [show (s0 : Int32).toInt = s0.toInt from (ti_rfl s0)]; omega) (by rw [show (s0 : Int32).toInt = s0.toInt from (ti_rfl s0)]; omega) v51) mL_X1_103 iM_X1_tie sM_X1_tie (hvx.sh rfl) rfl rfl rfl (Nat.le_of_ble_eq_true rfl) (show d + 1 + 1 + 1 ≤ d + 3 by omega) (show 8 + (6 + 11) + 40 * (d + 1 + 1) ≤ 40 * (d + 3) by omega) (g_c0 hvx.ln) (Nat.le_of_ble_eq_true rfl) dX1_tieEnds_129 ?_
        intro r h52 hq _
        obtain ⟨rfl, hv52, f53⟩ := hq
        have fx52 : FX KAc h h52 := FX.tr fxx f53
        exact go_lv rfl (ih.2.2.2.2.2 l1 h52 hv52 (by omega) (by omega) fx52 (by omega))
      ·
        intro l1 hx hvx l1l l1u fxx hm
        refine gf_iinc (pc := 132) (Nat.le_of_ble_eq_true rfl) rfl (ti_rfl l1) (ti_c (by decide)) (by omega) (by omega) dX1_tieEnds_132 (fun v54 e55 => ?_)
        refine go_lv (lv2 := [(0, .ref 57), (1, .int v54)]) rfl ?_
        refine go_goto (pc := 135) (tgt := 2) (by decide) dX1_tieEnds_135 ?_
        have z56 : (v54 : Int32).toInt = (l1.toInt + 1) := e55
        exact go_lv rfl (ih.1 v54 hx hvx (by omega) (by omega) fxx (by omega))
  refine go_iconst (pc := 0) (v := 0) (by decide) dX1_tieEnds_0 ?_
  refine go_istore_n (pc := 1) (Nat.le_of_ble_eq_true rfl) dX1_tieEnds_1 (go_lv (lv2 := [(0, .ref 57), (1, .int 0)]) rfl ?_)
  have z57 : (0 : Int32).toInt = 0 := (ti_c (v := 0) (a := 0) (by decide))
  exact go_lv rfl ((key 349).1 0 h hv (by omega) (by omega) fx (by omega))
set_option maxHeartbeats 4000000 in
set_option maxRecDepth 100000 in
theorem s_X1_tieCalls_f (l : Launch) (d : Nat) {P : PP} {h : HP} (hv : Iv P h)  : Mt l yX1_tieCalls cX1_tieCalls 3 none (d + 2) [.ref 57] h 0 0 (fun r h' => r = none ∧ Iv P h' ∧ (FX KAc h h')) := by
  refine Mt_iv hv (by decide) (Nat.le_of_ble_eq_true rfl) ?_
  show Go l RX1 cX1_tieCalls 3 (g_rm (d + 2) 0 0) "tieCalls" none 117 0 0 (fun _ _ => True) (fun r h' => r = none ∧ Iv P h' ∧ (FX KAc h h')) 0 0 [(0, .ref 57)] [] h
  have fx : FX KAc h h := FX.rfl
  have key : ∀ n : Nat, (∀ (l1 : Int32) (hx : HP), Iv P hx → 0 ≤ l1.toInt → l1.toInt ≤ 40 → FX KAc h hx → (46 * (40 - l1.toInt) + 45 : Int) < n → Go l RX1 cX1_tieCalls 3 (g_rm (d + 2) 0 0) "tieCalls" none 117 0 0 (fun _ _ => True) (fun r h' => r = none ∧ Iv P h' ∧ (FX KAc h h')) 0 2 [(0, .ref 57), (1, .int l1)] [] hx) ∧ (∀ (l1 : Int32) (l2 : Int32) (hx : HP), Iv P hx → 0 ≤ l1.toInt → l1.toInt ≤ 39 → 1 ≤ l2.toInt → l2.toInt ≤ 13 → FX KAc h hx → (3 * (13 - l2.toInt) + 46 * (40 - l1.toInt) + 4 : Int) < n → Go l RX1 cX1_tieCalls 3 (g_rm (d + 2) 0 0) "tieCalls" none 117 0 0 (fun _ _ => True) (fun r h' => r = none ∧ Iv P h' ∧ (FX KAc h h')) 0 28 [(0, .ref 57), (1, .int l1), (2, .int l2)] [] hx) ∧ (∀ (l1 : Int32) (hx : HP), Iv P hx → 0 ≤ l1.toInt → l1.toInt ≤ 39 → FX KAc h hx → (46 * (40 - l1.toInt) + 2 : Int) < n → Go l RX1 cX1_tieCalls 3 (g_rm (d + 2) 0 0) "tieCalls" none 117 0 0 (fun _ _ => True) (fun r h' => r = none ∧ Iv P h' ∧ (FX KAc h h')) 0 51 [(0, .ref 57), (1, .int l1)] [] hx) := by
    intro n
    induction n with
    | zero => exact ⟨(by intros; omega), (by intros; omega), (by intros; omega)⟩
    | succ n ih =>
      refine ⟨?_, ?_, ?_⟩
      ·
        intro l1 hx hvx l1l l1u fxx hm
        refine go_iload_n (pc := 2) rfl dX1_tieCalls_2 ?_
        refine go_aload_n (pc := 3) rfl dX1_tieCalls_3 ?_
        refine gi_getC (pc := 4) hvx fL_X1_30 rfl (Nat.le_of_ble_eq_true rfl) rfl (by decide) dX1_tieCalls_4 (fun c1 hc1 fc1 => ?_)
        refine gi_get (pc := 7) (lo := 0) (hi := 40) hvx fL_X1_62 (by rcases hc1 with rfl | rfl <;> rfl) (Nat.le_of_ble_eq_true rfl) rfl (by rcases hc1 with rfl | rfl <;> rfl) dX1_tieCalls_7 (fun v2 v2l v2u v2w => ?_)
        refine gf_icmp_ge (pc := 10) (tgt := 57) (ti_rfl l1) (ti_rfl v2) (by decide) dX1_tieCalls_10 (fun q3 => ?_) (fun q3 => ?_)
        ·
          exact gi_vret (pc := 57) ⟨rfl, hvx, fxx⟩ hvx dX1_tieCalls_57
        ·
          refine go_aload_n (pc := 13) rfl dX1_tieCalls_13 ?_
          refine gi_getC (pc := 14) hvx fL_X1_30 rfl (Nat.le_of_ble_eq_true rfl) rfl (by decide) dX1_tieCalls_14 (fun c4 hc4 fc4 => ?_)
          refine gi_getF (pc := 17) (q := c4 + 2) hvx fL_X1_100 (by rcases hc4 with rfl | rfl <;> rfl) (Nat.le_of_ble_eq_true rfl) rfl (by rcases hc4 with rfl | rfl <;> exact hvx.rf (by decide)) dX1_tieCalls_17 ?_
          refine go_iload_n (pc := 20) rfl dX1_tieCalls_20 ?_
          refine gi_iald (pc := 21) (lo := 0) (hi := 5) (len := 40) hvx (ti_rfl l1) (by rcases hc4 with rfl | rfl <;> rfl) (by omega) (by omega) (fun _ => by rcases hc4 with rfl | rfl <;> rfl) dX1_tieCalls_21 (fun v5 v5l v5u v5w => ?_)
          refine go_iconst (pc := 22) (v := 1) (by decide) dX1_tieCalls_22 ?_
          refine gf_icmp_ne (pc := 23) (tgt := 51) (ti_rfl v5) (ti_c (v := 1) (a := 1) (by decide)) (by decide) dX1_tieCalls_23 (fun q6 => ?_) (fun q6 => ?_)
          ·
            exact go_lv rfl (ih.2.2 l1 hx hvx (by omega) (by omega) fxx (by omega))
          ·
            refine go_iconst (pc := 26) (v := 1) (by decide) dX1_tieCalls_26 ?_
            refine go_istore_n (pc := 27) (Nat.le_of_ble_eq_true rfl) dX1_tieCalls_27 (go_lv (lv2 := [(0, .ref 57), (1, .int l1), (2, .int 1)]) rfl ?_)
            have z7 : (1 : Int32).toInt = 1 := (ti_c (v := 1) (a := 1) (by decide))
            exact go_lv rfl (ih.2.1 l1 1 hx hvx (by omega) (by omega) (by omega) (by omega) fxx (by omega))
      ·
        intro l1 l2 hx hvx l1l l1u l2l l2u fxx hm
        refine go_iload_n (pc := 28) rfl dX1_tieCalls_28 ?_
        refine go_bipush (pc := 29) (v := 13) (by decide) dX1_tieCalls_29 ?_
        refine gf_icmp_ge (pc := 31) (tgt := 51) (ti_rfl l2) (ti_c (v := 13) (a := 13) (by decide)) (by decide) dX1_tieCalls_31 (fun q8 => ?_) (fun q8 => ?_)
        ·
          exact go_lv rfl (ih.2.2 l1 hx hvx (by omega) (by omega) fxx (by omega))
        ·
          refine go_aload_n (pc := 34) rfl dX1_tieCalls_34 ?_
          refine go_iload_n (pc := 35) rfl dX1_tieCalls_35 ?_
          refine go_iload_n (pc := 36) rfl dX1_tieCalls_36 ?_
          refine go_iconst (pc := 37) (v := 0) (by decide) dX1_tieCalls_37 ?_
          refine go_iload_n (pc := 38) rfl dX1_tieCalls_38 ?_
          refine go_invS (pc := 39) (sl := 0) (s_X7_bit_f l (d + 0) hvx l1) mL_X1_79 iM_X7_bit rfl rfl (Nat.le_of_ble_eq_true rfl) (show d + 0 + 1 + 1 ≤ d + 2 by omega) (show 8 + (1 + 11) + 40 * (d + 0 + 1) ≤ 40 * (d + 2) by omega) (g_c0 hvx.ln) (Nat.le_of_ble_eq_true rfl) dX1_tieCalls_39 ?_
          intro r h9 hq _
          obtain ⟨v11, rfl, rfl, f10⟩ := hq
          refine go_invV (pc := 42) (sl := 0) (s_X1_tie_f l (d + 0) hvx l1 (by rw [show (l1 : Int32).toInt = l1.toInt from (ti_rfl l1)]; omega) (by rw [show (l1 : Int32).toInt = l1.toInt from (ti_rfl l1)]; omega) l2 (by rw [show (l2 : Int32).toInt = l2.toInt from (ti_rfl l2)]; omega) (by rw [show (l2 : Int32).toInt = l2.toInt from (ti_rfl l2)]; omega) 0 (by rw [show (0 : Int32).toInt = 0 from (ti_c (v := 0) (a := 0) (by decide))]; omega) (by rw [show (0 : Int32).toInt = 0 from (ti_c (v := 0) (a := 0) (by decide))]; omega) v11) mL_X1_103 iM_X1_tie sM_X1_tie (hvx.sh rfl) rfl rfl rfl (Nat.le_of_ble_eq_true rfl) (show d + 0 + 1 + 1 ≤ d + 2 by omega) (show 8 + (6 + 11) + 40 * (d + 0 + 1) ≤ 40 * (d + 2) by omega) (g_c0 hvx.ln) (Nat.le_of_ble_eq_true rfl) dX1_tieCalls_42 ?_
          intro r h12 hq _
          obtain ⟨rfl, hv12, f13⟩ := hq
          try rw [show (0 : Int32).toInt = 0 from (ti_c (v := 0) (a := 0) (by decide))] at f13
          have fx12 : FX KAc h h12 := FX.tr fxx f13
          refine gf_iinc (pc := 45) (Nat.le_of_ble_eq_true rfl) rfl (ti_rfl l2) (ti_c (by decide)) (by omega) (by omega) dX1_tieCalls_45 (fun v14 e15 => ?_)
          refine go_lv (lv2 := [(0, .ref 57), (1, .int l1), (2, .int v14)]) rfl ?_
          refine go_goto (pc := 48) (tgt := 28) (by decide) dX1_tieCalls_48 ?_
          have z16 : (v14 : Int32).toInt = (l2.toInt + 1) := e15
          exact go_lv rfl (ih.2.1 l1 v14 h12 hv12 (by omega) (by omega) (by omega) (by omega) fx12 (by omega))
      ·
        intro l1 hx hvx l1l l1u fxx hm
        refine gf_iinc (pc := 51) (Nat.le_of_ble_eq_true rfl) rfl (ti_rfl l1) (ti_c (by decide)) (by omega) (by omega) dX1_tieCalls_51 (fun v17 e18 => ?_)
        refine go_lv (lv2 := [(0, .ref 57), (1, .int v17)]) rfl ?_
        refine go_goto (pc := 54) (tgt := 2) (by decide) dX1_tieCalls_54 ?_
        have z19 : (v17 : Int32).toInt = (l1.toInt + 1) := e18
        exact go_lv rfl (ih.1 v17 hx hvx (by omega) (by omega) fxx (by omega))
  refine go_iconst (pc := 0) (v := 0) (by decide) dX1_tieCalls_0 ?_
  refine go_istore_n (pc := 1) (Nat.le_of_ble_eq_true rfl) dX1_tieCalls_1 (go_lv (lv2 := [(0, .ref 57), (1, .int 0)]) rfl ?_)
  have z20 : (0 : Int32).toInt = 0 := (ti_c (v := 0) (a := 0) (by decide))
  exact go_lv rfl ((key 1945).1 0 h hv (by omega) (by omega) fx (by omega))
set_option maxHeartbeats 4000000 in
set_option maxRecDepth 100000 in
theorem s_X1_build_f (l : Launch) (d : Nat) {P : PP} {h : HP} (hv : Iv P h) (c2 : Nat) (hc2 : c2 = 2 ∨ c2 = 18) : Mt l yX1_build cX1_build 3 none (d + 5) [.ref 57, .ref c2] h 0 0 (fun r h' => r = none ∧ Iv P h' ∧ (FX KAc h h')) := by
  refine Mt_iv hv (by decide) (Nat.le_of_ble_eq_true rfl) ?_
  show Go l RX1 cX1_build 3 (g_rm (d + 5) 0 0) "build" none 117 0 0 (fun _ _ => True) (fun r h' => r = none ∧ Iv P h' ∧ (FX KAc h h')) 0 0 [(0, .ref 57), (1, .ref c2)] [] h
  have fx : FX KAc h h := FX.rfl
  have key : ∀ n : Nat, (∀ (l2 : Int32) (hx : HP), Iv P hx → 0 ≤ l2.toInt → l2.toInt ≤ 10 → FX KAc h hx → (3 * (10 - l2.toInt) + 2 : Int) < n → Go l RX1 cX1_build 3 (g_rm (d + 5) 0 0) "build" none 117 0 0 (fun _ _ => True) (fun r h' => r = none ∧ Iv P h' ∧ (FX KAc h h')) 0 35 [(0, .ref 57), (2, .int l2)] [] hx) := by
    intro n
    induction n with
    | zero => exact (by intros; omega)
    | succ n ih =>
      refine ?_
      ·
        intro l2 hx hvx l2l l2u fxx hm
        refine go_iload_n (pc := 35) rfl dX1_build_35 ?_
        refine go_bipush (pc := 36) (v := 10) (by decide) dX1_build_36 ?_
        refine gf_icmp_ge (pc := 38) (tgt := 57) (ti_rfl l2) (ti_c (v := 10) (a := 10) (by decide)) (by decide) dX1_build_38 (fun q1 => ?_) (fun q1 => ?_)
        ·
          refine go_aload_n (pc := 57) rfl dX1_build_57 ?_
          refine go_invV (pc := 58) (sl := 0) (s_X1_tieEnds_f l (d + 1) hvx ) mL_X1_50 iM_X1_tieEnds sM_X1_tieEnds (hvx.sh rfl) rfl rfl rfl (Nat.le_of_ble_eq_true rfl) (show d + 1 + 3 + 1 ≤ d + 5 by omega) (show 8 + (4 + 11) + 40 * (d + 1 + 3) ≤ 40 * (d + 5) by omega) (g_c0 hvx.ln) (Nat.le_of_ble_eq_true rfl) dX1_build_58 ?_
          intro r h2 hq _
          obtain ⟨rfl, hv2, f3⟩ := hq
          have fx2 : FX KAc h h2 := FX.tr fxx f3
          refine go_aload_n (pc := 61) rfl dX1_build_61 ?_
          refine go_invV (pc := 62) (sl := 0) (s_X1_tieCalls_f l (d + 2) hv2 ) mL_X1_53 iM_X1_tieCalls sM_X1_tieCalls (hv2.sh rfl) rfl rfl rfl (Nat.le_of_ble_eq_true rfl) (show d + 2 + 2 + 1 ≤ d + 5 by omega) (show 8 + (3 + 11) + 40 * (d + 2 + 2) ≤ 40 * (d + 5) by omega) (g_c0 hv2.ln) (Nat.le_of_ble_eq_true rfl) dX1_build_62 ?_
          intro r h4 hq _
          obtain ⟨rfl, hv4, f5⟩ := hq
          have fx4 : FX KAc h h4 := FX.tr fx2 f5
          exact gi_vret (pc := 65) ⟨rfl, hv4, fx4⟩ hv4 dX1_build_65
        ·
          refine go_aload_n (pc := 41) rfl dX1_build_41 ?_
          refine go_iload_n (pc := 42) rfl dX1_build_42 ?_
          refine go_invV (pc := 43) (sl := 0) (s_X1_findTellers_f l (d + 0) hvx l2 (by rw [show (l2 : Int32).toInt = l2.toInt from (ti_rfl l2)]; omega) (by rw [show (l2 : Int32).toInt = l2.toInt from (ti_rfl l2)]; omega)) mL_X1_43 iM_X1_findTellers sM_X1_findTellers (hvx.sh rfl) rfl rfl rfl (Nat.le_of_ble_eq_true rfl) (show d + 0 + 4 + 1 ≤ d + 5 by omega) (show 8 + (5 + 11) + 40 * (d + 0 + 4) ≤ 40 * (d + 5) by omega) (g_c0 hvx.ln) (Nat.le_of_ble_eq_true rfl) dX1_build_43 ?_
          intro r h6 hq _
          obtain ⟨rfl, hv6, f7⟩ := hq
          have fx6 : FX KAc h h6 := FX.tr fxx f7
          refine go_aload_n (pc := 46) rfl dX1_build_46 ?_
          refine go_iload_n (pc := 47) rfl dX1_build_47 ?_
          refine go_invV (pc := 48) (sl := 0) (s_X1_tieByValue_f l (d + 1) hv6 l2 (by rw [show (l2 : Int32).toInt = l2.toInt from (ti_rfl l2)]; omega) (by rw [show (l2 : Int32).toInt = l2.toInt from (ti_rfl l2)]; omega)) mL_X1_47 iM_X1_tieByValue sM_X1_tieByValue (hv6.sh rfl) rfl rfl rfl (Nat.le_of_ble_eq_true rfl) (show d + 1 + 3 + 1 ≤ d + 5 by omega) (show 8 + (4 + 11) + 40 * (d + 1 + 3) ≤ 40 * (d + 5) by omega) (g_c0 hv6.ln) (Nat.le_of_ble_eq_true rfl) dX1_build_48 ?_
          intro r h8 hq _
          obtain ⟨rfl, hv8, f9⟩ := hq
          have fx8 : FX KAc h h8 := FX.tr fx6 f9
          refine gf_iinc (pc := 51) (Nat.le_of_ble_eq_true rfl) rfl (ti_rfl l2) (ti_c (by decide)) (by omega) (by omega) dX1_build_51 (fun v10 e11 => ?_)
          refine go_lv (lv2 := [(0, .ref 57), (2, .int v10)]) rfl ?_
          refine go_goto (pc := 54) (tgt := 35) (by decide) dX1_build_54 ?_
          have z12 : (v10 : Int32).toInt = (l2.toInt + 1) := e11
          exact go_lv rfl (ih v10 h8 hv8 (by omega) (by omega) fx8 (by omega))
  refine go_aload_n (pc := 0) rfl dX1_build_0 ?_
  refine go_aload_n (pc := 1) rfl dX1_build_1 ?_
  refine gi_putC (pc := 2) hv hc2 (fP_X1_30 _) rfl (Nat.le_of_ble_eq_true rfl) rfl (fun _ => rfl) (fun _ => rfl) (by decide) (by decide) (by decide) (by decide) dX1_build_2 (fun h13 hv13 hv13e => ?_)
  have fx13 : FX KAc h h13 := FX.pR fx hv13e (by unfold KAc; omega)
  refine go_aload_n (pc := 5) rfl dX1_build_5 ?_
  refine gi_getF (pc := 6) (q := 58) hv13 fL_X1_9 rfl (Nat.le_of_ble_eq_true rfl) rfl (hv13.rf (by decide)) dX1_build_6 ?_
  refine go_lconst (pc := 9) (v := 0) (by decide) dX1_build_9 ?_
  refine go_invS (pc := 10) (sl := 0) (s_J7_fill_d0a16_at58_f l (d + 3) hv13 (0 : Int64)) mL_X1_34 iM_J7_fill_d0a16 rfl rfl (Nat.le_of_ble_eq_true rfl) (show d + 3 + 1 + 1 ≤ d + 5 by omega) (show 8 + (5 + 11) + 40 * (d + 3 + 1) ≤ 40 * (d + 5) by omega) (g_c0 hv13.ln) (Nat.le_of_ble_eq_true rfl) dX1_build_10 ?_
  intro r h14 hq _
  obtain ⟨rfl, hv14, f15⟩ := hq
  have fx14 : FX KAc h h14 := FX.tr fx13 f15
  refine go_aload_n (pc := 13) rfl dX1_build_13 ?_
  refine gi_getF (pc := 14) (q := 59) hv14 fL_X1_15 rfl (Nat.le_of_ble_eq_true rfl) rfl (hv14.rf (by decide)) dX1_build_14 ?_
  refine go_lconst (pc := 17) (v := 0) (by decide) dX1_build_17 ?_
  refine go_invS (pc := 18) (sl := 0) (s_J7_fill_d0a16_at59_f l (d + 3) hv14 (0 : Int64)) mL_X1_34 iM_J7_fill_d0a16 rfl rfl (Nat.le_of_ble_eq_true rfl) (show d + 3 + 1 + 1 ≤ d + 5 by omega) (show 8 + (5 + 11) + 40 * (d + 3 + 1) ≤ 40 * (d + 5) by omega) (g_c0 hv14.ln) (Nat.le_of_ble_eq_true rfl) dX1_build_18 ?_
  intro r h16 hq _
  obtain ⟨rfl, hv16, f17⟩ := hq
  have fx16 : FX KAc h h16 := FX.tr fx14 f17
  refine go_aload_n (pc := 21) rfl dX1_build_21 ?_
  refine gi_getF (pc := 22) (q := 60) hv16 fL_X1_18 rfl (Nat.le_of_ble_eq_true rfl) rfl (hv16.rf (by decide)) dX1_build_22 ?_
  refine go_lconst (pc := 25) (v := 0) (by decide) dX1_build_25 ?_
  refine go_invS (pc := 26) (sl := 0) (s_J7_fill_d0a16_at60_f l (d + 3) hv16 (0 : Int64)) mL_X1_34 iM_J7_fill_d0a16 rfl rfl (Nat.le_of_ble_eq_true rfl) (show d + 3 + 1 + 1 ≤ d + 5 by omega) (show 8 + (5 + 11) + 40 * (d + 3 + 1) ≤ 40 * (d + 5) by omega) (g_c0 hv16.ln) (Nat.le_of_ble_eq_true rfl) dX1_build_26 ?_
  intro r h18 hq _
  obtain ⟨rfl, hv18, f19⟩ := hq
  have fx18 : FX KAc h h18 := FX.tr fx16 f19
  refine go_aload_n (pc := 29) rfl dX1_build_29 ?_
  refine go_invV (pc := 30) (sl := 0) (s_X1_tieByWay_f l (d + 0) hv18 ) mL_X1_40 iM_X1_tieByWay sM_X1_tieByWay (hv18.sh rfl) rfl rfl rfl (Nat.le_of_ble_eq_true rfl) (show d + 0 + 4 + 1 ≤ d + 5 by omega) (show 8 + (2 + 11) + 40 * (d + 0 + 4) ≤ 40 * (d + 5) by omega) (g_c0 hv18.ln) (Nat.le_of_ble_eq_true rfl) dX1_build_30 ?_
  intro r h20 hq _
  obtain ⟨rfl, hv20, f21⟩ := hq
  have fx20 : FX KAc h h20 := FX.tr fx18 f21
  refine go_iconst (pc := 33) (v := 0) (by decide) dX1_build_33 ?_
  refine go_istore_n (pc := 34) (Nat.le_of_ble_eq_true rfl) dX1_build_34 (go_lv (lv2 := [(0, .ref 57), (1, .ref c2), (2, .int 0)]) rfl ?_)
  have z22 : (0 : Int32).toInt = 0 := (ti_c (v := 0) (a := 0) (by decide))
  exact go_lv rfl ((key 49) 0 h20 hv20 (by omega) (by omega) fx20 (by omega))
