/-! the wiring of the first reader, one shape for all levels -/
def gWT (wb : ST → Int → Int → Int → ST × Int) (s : ST) (a2 a3 a4 : Int) : ST × Int :=
  bd (s.1 40 (a2).toNat) fun v1 => bd2 (wb s v1 a3 a4) fun s5 v8 => bd (sI s5 42 (a2).toNat v8) fun s10 => if ¬ v8 = a3 then (bd (sI s10 43 (a2).toNat v8) fun s14 => bd (s14.1 39 (a2).toNat) fun v16 => bd2 (wb s14 v16 a3 a2) fun s20 v23 => (s20, v23)) else (bd (sI s10 43 (a2).toNat (-2)) fun s26 => bd (s26.1 39 (a2).toNat) fun v28 => bd2 (wb s26 v28 a3 a2) fun s32 v35 => (s32, v35))
def gWS (wb : ST → Int → Int → Int → ST × Int) (s : ST) (a2 a3 a4 : Int) : ST × Int :=
  bd (s.1 37 (a2).toNat) fun v1 => bd (s.2.2 48 1) fun c3 => bd (s.1 (c3 + 3) (v1).toNat) fun v5 => bd (s.2.2 48 1) fun c9 => bd (sI s (c9 + 11) (v1).toNat a3) fun s11 => bd (s11.2.2 48 1) fun c13 => bd (sI s11 (c13 + 12) (v1).toNat a3) fun s15 => bd (s15.2.2 48 1) fun c17 => if 0 ≤ a4 then (bd (s15.1 42 (a4).toNat) fun v21 => bd (sI s15 (c17 + 13) (v1).toNat v21) fun s23 => bd (s23.2.2 48 1) fun c25 => bd (s23.1 41 (a4).toNat) fun v28 => bd (sI s23 (c25 + 14) (v1).toNat v28) fun s30 => bd (s30.2.2 48 1) fun c32 => bd (s30.1 43 (a4).toNat) fun v35 => bd (sI s30 (c32 + 15) (v1).toNat v35) fun s37 => bd (s37.2.2 48 1) fun c39 => bd (s37.1 (c39 + 2) (v1).toNat) fun v41 => if ¬ v41 = 5 then (bd (s37.2.2 48 1) fun c45 => bd (s37.1 (c45 + 2) (v1).toNat) fun v47 => if ¬ v47 = 3 then (bd (s37.2.2 48 1) fun c51 => bd (s37.1 (c51 + 2) (v1).toNat) fun v53 => if ¬ v53 = 2 then ((s37, v1)) else (bd (s37.2.2 48 1) fun c58 => bd (s37.1 39 (a2).toNat) fun v60 => bd2 (wb s37 v60 a3 a4) fun s64 v67 => bd (sI s64 (c58 + 13) (v1).toNat v67) fun s69 => bd (s69.2.2 48 1) fun c71 => bd (s69.1 40 (a2).toNat) fun v73 => bd2 (wb s69 v73 a3 a4) fun s77 v80 => bd (sI s77 (c71 + 12) (v1).toNat v80) fun s82 => (s82, v1))) else (bd (s37.2.2 48 1) fun c85 => bd (s37.1 39 (a2).toNat) fun v87 => bd2 (wb s37 v87 v1 a4) fun s91 v94 => bd (sI s91 (c85 + 13) (v1).toNat v94) fun s96 => (s96, v1))) else (bd (s37.2.2 48 1) fun c99 => bd (sI s37 (c99 + 13) (v1).toNat ((40 + v5))) fun s101 => (s101, v1))) else (bd (sI s15 (c17 + 13) (v1).toNat ((40 + v5))) fun s104 => bd (s104.2.2 48 1) fun c106 => bd (sI s104 (c106 + 14) (v1).toNat (-1)) fun s109 => bd (s109.2.2 48 1) fun c111 => bd (sI s109 (c111 + 15) (v1).toNat (-2)) fun s114 => bd (s114.2.2 48 1) fun c116 => bd (s114.1 (c116 + 2) (v1).toNat) fun v118 => if ¬ v118 = 5 then (bd (s114.2.2 48 1) fun c122 => bd (s114.1 (c122 + 2) (v1).toNat) fun v124 => if ¬ v124 = 3 then (bd (s114.2.2 48 1) fun c128 => bd (s114.1 (c128 + 2) (v1).toNat) fun v130 => if ¬ v130 = 2 then ((s114, v1)) else (bd (s114.2.2 48 1) fun c135 => bd (s114.1 39 (a2).toNat) fun v137 => bd2 (wb s114 v137 a3 a4) fun s141 v144 => bd (sI s141 (c135 + 13) (v1).toNat v144) fun s146 => bd (s146.2.2 48 1) fun c148 => bd (s146.1 40 (a2).toNat) fun v150 => bd2 (wb s146 v150 a3 a4) fun s154 v157 => bd (sI s154 (c148 + 12) (v1).toNat v157) fun s159 => (s159, v1))) else (bd (s114.2.2 48 1) fun c162 => bd (s114.1 39 (a2).toNat) fun v164 => bd2 (wb s114 v164 v1 a4) fun s168 v171 => bd (sI s168 (c162 + 13) (v1).toNat v171) fun s173 => (s173, v1))) else (bd (s114.2.2 48 1) fun c176 => bd (sI s114 (c176 + 13) (v1).toNat ((40 + v5))) fun s178 => (s178, v1)))
def gWB_ (ws wt : ST → Int → Int → Int → ST × Int) : Nat → Int → Int → Int → Int → ST → ST × Int
  | 0, _, _, _, _, s => (s, 0)
  | n + 1, c, f, i, k, s => if 128 ≤ k then (s, f) else (if i < 0 then (s, f) else (bd (s.1 37 i.toNat) fun v => if ¬ v = (-1) then (bd2 (ws s i f c) fun s1 e => bd (s1.1 38 i.toNat) fun j => gWB_ ws wt n c e j (k + 1) s1) else (bd2 (wt s i f c) fun s1 e => bd (s1.1 38 i.toNat) fun j => gWB_ ws wt n c e j (k + 1) s1)))
/-- the levels from below: W 0 is the one that is too deep -/
def gW : Nat → ST → Int → Int → Int → ST × Int
  | 0 => fun s _ f _ => (s, f)
  | n + 1 => fun s l f c => gWB_ (gWS (gW n)) (gWT (gW n)) 403 c f l 0 s
theorem wb_7 (s : ST) (l f c k : Int) : f_X6_wireBlock_lv7 s l f c k = gW 0 s l f c := by
  unfold f_X6_wireBlock_lv7
  rw [f_X6_wireBlock_lv7_]
  rfl
theorem wt_6 (s : ST) (a2 a3 a4 a5 : Int) : f_X6_wireTry_lv6 s a2 a3 a4 a5 = gWT (gW 0) s a2 a3 a4 := by
  unfold f_X6_wireTry_lv6 gWT
  simp only [wb_7]
theorem ws_6 (s : ST) (a2 a3 a4 a5 : Int) : f_X6_wireStatement_lv6 s a2 a3 a4 a5 = gWS (gW 0) s a2 a3 a4 := by
  unfold f_X6_wireStatement_lv6 gWS
  simp only [wb_7]
theorem wl_6 : ∀ (n m : Nat) (l3 l4 l5 l6 l7 : Int) (s : ST), f_X6_wireBlock_lv6_ n m l3 l4 l5 l6 l7 s = gWB_ (gWS (gW 0)) (gWT (gW 0)) n l3 l5 l6 l7 s := by
  intro n
  induction n with
  | zero => intro m l3 l4 l5 l6 l7 s; rfl
  | succ n ih =>
    intro m l3 l4 l5 l6 l7 s
    rw [f_X6_wireBlock_lv6_, gWB_]
    simp only [ws_6, wt_6, ih]
theorem wb_6 (s : ST) (l f c k : Int) : f_X6_wireBlock_lv6 s l f c k = gW 1 s l f c := by
  unfold f_X6_wireBlock_lv6
  rw [wl_6]
  rfl
theorem wt_5 (s : ST) (a2 a3 a4 a5 : Int) : f_X6_wireTry_lv5 s a2 a3 a4 a5 = gWT (gW 1) s a2 a3 a4 := by
  unfold f_X6_wireTry_lv5 gWT
  simp only [wb_6]
theorem ws_5 (s : ST) (a2 a3 a4 a5 : Int) : f_X6_wireStatement_lv5 s a2 a3 a4 a5 = gWS (gW 1) s a2 a3 a4 := by
  unfold f_X6_wireStatement_lv5 gWS
  simp only [wb_6]
theorem wl_5 : ∀ (n m : Nat) (l3 l4 l5 l6 l7 : Int) (s : ST), f_X6_wireBlock_lv5_ n m l3 l4 l5 l6 l7 s = gWB_ (gWS (gW 1)) (gWT (gW 1)) n l3 l5 l6 l7 s := by
  intro n
  induction n with
  | zero => intro m l3 l4 l5 l6 l7 s; rfl
  | succ n ih =>
    intro m l3 l4 l5 l6 l7 s
    rw [f_X6_wireBlock_lv5_, gWB_]
    simp only [ws_5, wt_5, ih]
theorem wb_5 (s : ST) (l f c k : Int) : f_X6_wireBlock_lv5 s l f c k = gW 2 s l f c := by
  unfold f_X6_wireBlock_lv5
  rw [wl_5]
  rfl
theorem wt_4 (s : ST) (a2 a3 a4 a5 : Int) : f_X6_wireTry_lv4 s a2 a3 a4 a5 = gWT (gW 2) s a2 a3 a4 := by
  unfold f_X6_wireTry_lv4 gWT
  simp only [wb_5]
theorem ws_4 (s : ST) (a2 a3 a4 a5 : Int) : f_X6_wireStatement_lv4 s a2 a3 a4 a5 = gWS (gW 2) s a2 a3 a4 := by
  unfold f_X6_wireStatement_lv4 gWS
  simp only [wb_5]
theorem wl_4 : ∀ (n m : Nat) (l3 l4 l5 l6 l7 : Int) (s : ST), f_X6_wireBlock_lv4_ n m l3 l4 l5 l6 l7 s = gWB_ (gWS (gW 2)) (gWT (gW 2)) n l3 l5 l6 l7 s := by
  intro n
  induction n with
  | zero => intro m l3 l4 l5 l6 l7 s; rfl
  | succ n ih =>
    intro m l3 l4 l5 l6 l7 s
    rw [f_X6_wireBlock_lv4_, gWB_]
    simp only [ws_4, wt_4, ih]
theorem wb_4 (s : ST) (l f c k : Int) : f_X6_wireBlock_lv4 s l f c k = gW 3 s l f c := by
  unfold f_X6_wireBlock_lv4
  rw [wl_4]
  rfl
theorem wt_3 (s : ST) (a2 a3 a4 a5 : Int) : f_X6_wireTry_lv3 s a2 a3 a4 a5 = gWT (gW 3) s a2 a3 a4 := by
  unfold f_X6_wireTry_lv3 gWT
  simp only [wb_4]
theorem ws_3 (s : ST) (a2 a3 a4 a5 : Int) : f_X6_wireStatement_lv3 s a2 a3 a4 a5 = gWS (gW 3) s a2 a3 a4 := by
  unfold f_X6_wireStatement_lv3 gWS
  simp only [wb_4]
theorem wl_3 : ∀ (n m : Nat) (l3 l4 l5 l6 l7 : Int) (s : ST), f_X6_wireBlock_lv3_ n m l3 l4 l5 l6 l7 s = gWB_ (gWS (gW 3)) (gWT (gW 3)) n l3 l5 l6 l7 s := by
  intro n
  induction n with
  | zero => intro m l3 l4 l5 l6 l7 s; rfl
  | succ n ih =>
    intro m l3 l4 l5 l6 l7 s
    rw [f_X6_wireBlock_lv3_, gWB_]
    simp only [ws_3, wt_3, ih]
theorem wb_3 (s : ST) (l f c k : Int) : f_X6_wireBlock_lv3 s l f c k = gW 4 s l f c := by
  unfold f_X6_wireBlock_lv3
  rw [wl_3]
  rfl
theorem wt_2 (s : ST) (a2 a3 a4 a5 : Int) : f_X6_wireTry_lv2 s a2 a3 a4 a5 = gWT (gW 4) s a2 a3 a4 := by
  unfold f_X6_wireTry_lv2 gWT
  simp only [wb_3]
theorem ws_2 (s : ST) (a2 a3 a4 a5 : Int) : f_X6_wireStatement_lv2 s a2 a3 a4 a5 = gWS (gW 4) s a2 a3 a4 := by
  unfold f_X6_wireStatement_lv2 gWS
  simp only [wb_3]
theorem wl_2 : ∀ (n m : Nat) (l3 l4 l5 l6 l7 : Int) (s : ST), f_X6_wireBlock_lv2_ n m l3 l4 l5 l6 l7 s = gWB_ (gWS (gW 4)) (gWT (gW 4)) n l3 l5 l6 l7 s := by
  intro n
  induction n with
  | zero => intro m l3 l4 l5 l6 l7 s; rfl
  | succ n ih =>
    intro m l3 l4 l5 l6 l7 s
    rw [f_X6_wireBlock_lv2_, gWB_]
    simp only [ws_2, wt_2, ih]
theorem wb_2 (s : ST) (l f c k : Int) : f_X6_wireBlock_lv2 s l f c k = gW 5 s l f c := by
  unfold f_X6_wireBlock_lv2
  rw [wl_2]
  rfl
theorem wt_1 (s : ST) (a2 a3 a4 a5 : Int) : f_X6_wireTry_lv1 s a2 a3 a4 a5 = gWT (gW 5) s a2 a3 a4 := by
  unfold f_X6_wireTry_lv1 gWT
  simp only [wb_2]
theorem ws_1 (s : ST) (a2 a3 a4 a5 : Int) : f_X6_wireStatement_lv1 s a2 a3 a4 a5 = gWS (gW 5) s a2 a3 a4 := by
  unfold f_X6_wireStatement_lv1 gWS
  simp only [wb_2]
theorem wl_1 : ∀ (n m : Nat) (l3 l4 l5 l6 l7 : Int) (s : ST), f_X6_wireBlock_lv1_ n m l3 l4 l5 l6 l7 s = gWB_ (gWS (gW 5)) (gWT (gW 5)) n l3 l5 l6 l7 s := by
  intro n
  induction n with
  | zero => intro m l3 l4 l5 l6 l7 s; rfl
  | succ n ih =>
    intro m l3 l4 l5 l6 l7 s
    rw [f_X6_wireBlock_lv1_, gWB_]
    simp only [ws_1, wt_1, ih]
theorem wb_1 (s : ST) (l f c k : Int) : f_X6_wireBlock_lv1 s l f c k = gW 6 s l f c := by
  unfold f_X6_wireBlock_lv1
  rw [wl_1]
  rfl
theorem wt_0 (s : ST) (a2 a3 a4 a5 : Int) : f_X6_wireTry_lv0 s a2 a3 a4 a5 = gWT (gW 6) s a2 a3 a4 := by
  unfold f_X6_wireTry_lv0 gWT
  simp only [wb_1]
theorem ws_0 (s : ST) (a2 a3 a4 a5 : Int) : f_X6_wireStatement_lv0 s a2 a3 a4 a5 = gWS (gW 6) s a2 a3 a4 := by
  unfold f_X6_wireStatement_lv0 gWS
  simp only [wb_1]
theorem wl_0 : ∀ (n m : Nat) (l3 l4 l5 l6 l7 : Int) (s : ST), f_X6_wireBlock_lv0_ n m l3 l4 l5 l6 l7 s = gWB_ (gWS (gW 6)) (gWT (gW 6)) n l3 l5 l6 l7 s := by
  intro n
  induction n with
  | zero => intro m l3 l4 l5 l6 l7 s; rfl
  | succ n ih =>
    intro m l3 l4 l5 l6 l7 s
    rw [f_X6_wireBlock_lv0_, gWB_]
    simp only [ws_0, wt_0, ih]
theorem wb_0 (s : ST) (l f c k : Int) : f_X6_wireBlock_lv0 s l f c k = gW 7 s l f c := by
  unfold f_X6_wireBlock_lv0
  rw [wl_0]
  rfl

