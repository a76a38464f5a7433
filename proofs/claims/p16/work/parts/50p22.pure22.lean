/-! what is called is told; the beginning; what read brings -/
theorem and_0 {x : Int} (h : x = 0 ∨ x = 1) : o_iand x 0 = 0 := by rcases h with rfl | rfl <;> decide
theorem and_1 {x : Int} (h : x = 0 ∨ x = 1) : o_iand x 1 = x := by rcases h with rfl | rfl <;> decide
theorem told_n {c : Nat} {S d pc : Int} {B : Int → Int} {s t : ST} (h : RR c S d pc B s t) (hS : t.1 70 6 = S) : ∀ (N k k' : Nat) (l x : Int), (x = 0 ∨ x = 1) → 0 ≤ l → f_X0_callsOnlyTold_ N k c x l s = if x = 0 then 0 else f_X8_isTold_ N k' l t := by
  intro N
  induction N with
  | zero =>
    intro k k' l x hx _
    rw [f_X0_callsOnlyTold_, f_X8_isTold_]
    split <;> rfl
  | succ N ih =>
    intro k k' l x hx h0
    rw [f_X0_callsOnlyTold_, f_X8_isTold_]
    repeat rewrite [bd_r]
    rw [hS, show s.1 c 0 = gI t 75 S from h.1.1, show s.1 c 1 = gI t 76 S from h.1.2.1, show t.1 75 S.toNat = gI t 75 S from rfl, show t.1 76 S.toNat = gI t 76 S from rfl]
    by_cases z : gI t 75 S ≤ l
    · rw [if_pos z, if_pos z]
      rcases hx with rfl | rfl
      · rw [if_pos rfl]
      · rw [if_neg (by omega)]
    · rw [if_neg z, if_neg z]
      have q := (h.2.1 l h0 (by omega)).2.2.2.2.2.2.2
      rw [show s.1 (c + 7) l.toNat = t.1 84 (t.1 93 (40 * S + l).toNat).toNat from q]
      by_cases y : t.1 84 (t.1 93 (40 * S + l).toNat).toNat < gI t 76 S
      · rw [if_neg (show ¬ gI t 76 S ≤ t.1 84 (t.1 93 (40 * S + l).toNat).toNat by omega), if_pos y, and_1 hx]
        exact ih 4 2 (l + 1) x hx (by omega)
      · rw [if_pos (show gI t 76 S ≤ t.1 84 (t.1 93 (40 * S + l).toNat).toNat by omega), if_neg y, and_0 hx, ih 4 2 (l + 1) 0 (Or.inl rfl) (by omega), if_pos rfl]
        rcases hx with rfl | rfl
        · rw [if_pos rfl]
        · rw [if_neg (by omega)]
theorem told_r {c : Nat} {S d pc : Int} {B : Int → Int} {s t : ST} (h : RR c S d pc B s t) (hS : t.1 70 6 = S) : f_X0_callsOnlyTold s c = f_X8_isTold t := by
  unfold f_X0_callsOnlyTold f_X8_isTold
  rw [told_n h hS 139 4 2 0 1 (Or.inr rfl) (by omega), if_neg (by omega)]
theorem SM.init {c : Nat} {S : Int} {s t : ST} (h : PS s t) (hcc : s.2.2 34 4 = c) (hS : t.1 70 6 = S) (c0 : s.1 c 0 = 0) (c1 : s.1 c 1 = 0) (i0 : s.1 36 0 = 0) (o0 : s.1 34 7 = 0) (t73 : gI t 73 S = 0) (t74 : gI t 74 S = 0) (t75 : gI t 75 S = 0) (t76 : gI t 76 S = 0) (c3 : s.1 c 3 = 0) (c4 : s.1 c 4 = 0) : SM c S 0 0 (fun _ => 0) s t := by
  refine ⟨h, ⟨?_, ?_, ?_, ?_, ?_, ?_, ⟨?_, ⟨fun k h0 h1 => by omega, fun e h0 h1 => by omega, fun z => by omega, fun x hx => by (unfold CJ at hx; omega), fun x y hx _ _ _ => by (unfold CJ at hx; omega), fun x hx => by (unfold CJ at hx; omega), fun p p' h0 h1 h2 => by omega, fun x y hx => by (unfold CJ at hx; omega), fun o x y ho => by (unfold CJ at ho; omega), fun e h0 h1 => by omega⟩⟩, o0⟩, hcc, hS, fun k h0 h1 => by omega⟩
  · unfold K1
    rw [t73, t74, t75, t76]
    exact ⟨c0, c1, i0, by omega, by omega, by omega, by omega, by omega, by omega, c3, c4⟩
  · intro k h0 h1
    omega
  · intro k h0 h1
    omega
  · intro b hb
    unfold CB at hb
    omega
  · intro p h0 h1
    omega
  · intro e h0 h1
    omega
  · intro e h0 h1
    omega
theorem start_r {s : ST} {c : Nat} {a : Int} (hc : c = 2 ∨ c = 18) : (f_X3_start s a c).1 34 1 = min a 500 ∧ (f_X3_start s a c).1 34 2 = 0 ∧ (f_X3_start s a c).1 34 3 = 0 ∧ (f_X3_start s a c).1 34 7 = 0 ∧ (f_X3_start s a c).1 c 0 = 0 ∧ (f_X3_start s a c).1 c 1 = 0 ∧ (f_X3_start s a c).1 36 0 = 0 ∧ (f_X3_start s a c).1 1 = s.1 1 ∧ (f_X3_start s a c).2.2 34 4 = c ∧ (f_X3_start s a c).1 c 3 = 0 ∧ (f_X3_start s a c).1 c 4 = 0 := by
  obtain ⟨fin, kf⟩ : ∃ z, z = f_X3_start s a c := ⟨_, rfl⟩
  rewrite [← kf]
  unfold f_X3_start at kf
  have j1 := bd_e kf rfl
  have j2 := bd_e j1 rfl
  have j3 := bd_e j2 rfl
  have j4 := bd_e j3 rfl
  have j5 := bd_e j4 rfl
  obtain ⟨X, hX⟩ : ∃ X, X = sI (sI (sI (sR s 34 0 1) 34 1 (min a 500)) 34 2 0) 34 3 0 := ⟨_, rfl⟩
  have x1 : X.1 34 1 = min a 500 := by rw [hX, sI_ne (p := 34) (q := 1) (by omega), sI_ne (p := 34) (q := 1) (by omega), sI_eq]
  have x2 : X.1 34 2 = 0 := by rw [hX, sI_ne (p := 34) (q := 2) (by omega), sI_eq]
  have x3 : X.1 34 3 = 0 := by rw [hX, sI_eq]
  have xt : X.1 1 = s.1 1 := by rw [hX, sI_nc (p := 1) (by omega), sI_nc (p := 1) (by omega), sI_nc (p := 1) (by omega)]; rfl
  rewrite [← hX] at j5
  have j6 := bd_e j5 rfl
  obtain ⟨Y, hY⟩ : ∃ Y, Y = sR X 34 4 c := ⟨_, rfl⟩
  have y1 : Y.1 = X.1 := by rw [hY]; rfl
  have yc : Y.2.2 34 4 = c := by rw [hY]; show (if 34 = 34 ∧ 4 = 4 then c else X.2.2 34 4) = c; rw [if_pos ⟨rfl, rfl⟩]
  rewrite [← hY] at j6
  have j7 := bd_e j6 yc
  have j8 := bd_e j7 rfl
  have j9 := bd_e j8 rfl
  have j10 := bd_e j9 rfl
  have cl : f_X0_clear Y c = sI (sI (sL (sI (sI Y c 0 0) c 1 0) c 2 (0 : Int64)) c 3 0) c 4 0 := by
    obtain ⟨f2, k2⟩ : ∃ z, z = f_X0_clear Y c := ⟨_, rfl⟩
    rewrite [← k2]
    unfold f_X0_clear at k2
    exact k2
  rewrite [cl] at j10
  obtain ⟨Z, hZ⟩ : ∃ Z, Z = sI (sI (sL (sI (sI Y c 0 0) c 1 0) c 2 (0 : Int64)) c 3 0) c 4 0 := ⟨_, rfl⟩
  rewrite [← hZ] at j10
  have zl : (sL (sI (sI Y c 0 0) c 1 0) c 2 (0 : Int64)).1 = (sI (sI Y c 0 0) c 1 0).1 := rfl
  have z34 : Z.1 34 = X.1 34 := by rw [hZ, sI_nc (p := 34) (by omega), sI_nc (p := 34) (by omega), zl, sI_nc (p := 34) (by omega), sI_nc (p := 34) (by omega), y1]
  have z1 : Z.1 1 = X.1 1 := by rw [hZ, sI_nc (p := 1) (by omega), sI_nc (p := 1) (by omega), zl, sI_nc (p := 1) (by omega), sI_nc (p := 1) (by omega), y1]
  have zc0 : Z.1 c 0 = 0 := by rw [hZ, sI_ne (p := c) (q := 0) (by omega), sI_ne (p := c) (q := 0) (by omega), zl, sI_ne (p := c) (q := 0) (by omega), sI_eq]
  have zc1 : Z.1 c 1 = 0 := by rw [hZ, sI_ne (p := c) (q := 1) (by omega), sI_ne (p := c) (q := 1) (by omega), zl, sI_eq]
  have zr : Z.2.2 34 4 = c := by rw [hZ]; exact yc
  have w : fin = sI (sI Z 36 0 0) 34 7 0 := j10
  rw [w]
  have zc3 : Z.1 c 3 = 0 := by rw [hZ, sI_ne (p := c) (q := 3) (by omega), sI_eq]
  have zc4 : Z.1 c 4 = 0 := by rw [hZ, sI_eq]
  refine ⟨?_, ?_, ?_, sI_eq _ _ _ _, ?_, ?_, ?_, ?_, zr, ?_, ?_⟩
  · rw [sI_ne (p := 34) (q := 1) (by omega), sI_nc (p := 34) (by omega), z34]; exact x1
  · rw [sI_ne (p := 34) (q := 2) (by omega), sI_nc (p := 34) (by omega), z34]; exact x2
  · rw [sI_ne (p := 34) (q := 3) (by omega), sI_nc (p := 34) (by omega), z34]; exact x3
  · rw [sI_nc (p := c) (by omega), sI_nc (p := c) (by omega)]; exact zc0
  · rw [sI_nc (p := c) (by omega), sI_nc (p := c) (by omega)]; exact zc1
  · rw [sI_nc (p := 36) (by omega), sI_eq]
  · rw [sI_nc (p := 1) (by omega), sI_nc (p := 1) (by omega), z1]; exact xt
  · rw [sI_nc (p := c) (by omega), sI_nc (p := c) (by omega)]; exact zc3
  · rw [sI_nc (p := c) (by omega), sI_nc (p := c) (by omega)]; exact zc4
theorem RUN.pl : ∀ {k : Nat} {s s' : ST}, RUN k s s' → s.1 34 2 ≤ 500 → s'.1 34 3 = 0 → s'.1 34 2 ≤ 500 := by
  intro k
  induction k with
  | zero => intro s s' h h1 _; have e : s' = s := h; rw [e]; exact h1
  | succ k ih =>
    intro s s' h h1 h0
    obtain ⟨x, a, b⟩ := h
    have hx : x.1 34 3 = 0 := by
      cases k with
      | zero => have b' : s' = x := b; rw [← b']; exact h0
      | succ k => obtain ⟨y, c, _⟩ := b; exact c.1
    exact ih b (a.2.2.2 hx).2 h0
theorem SM.eot {c : Nat} {S d pc : Int} {B : Int → Int} {sm tm : ST} (hc : c = 2 ∨ c = 18) (h : SM c S d pc B sm tm) (hl : f_X3_look sm = (sm, -1)) : sm.1 34 2 = sm.1 34 1 := by
  obtain ⟨p, v', e1, -, -, -, -, -, -, h3⟩ := SM.look hc h
  have e := hl.symm.trans e1
  have ev : -1 = v' := congrArg Prod.snd e
  have ep : sm.1 34 2 = p := by
    have q := congrArg (fun x : ST × Int => x.1.1 34 2) e
    dsimp only at q
    rw [sI_eq] at q
    exact q
  rcases h3 with z | z
  · omega
  · omega
/-- what read brings beside readAll: the same fault; or the text's end, with trees that agree -/
theorem read_all {c : Nat} {S a : Int} {s t : ST} (hc : c = 2 ∨ c = 18) (S0 : 0 ≤ S) (a0 : 0 ≤ a) (a5 : a ≤ 500) (hS : t.1 70 6 = S) (t3 : t.1 70 3 = a) (t4 : t.1 70 4 = 0) (t5 : t.1 70 5 = 0) (tx : TX (s.1 1) (t.1 72) a) (t73 : gI t 73 S = 0) (t74 : gI t 74 S = 0) (t75 : gI t 75 S = 0) (t76 : gI t 76 S = 0) :
    ((f_X8_readAll t).1 70 5 ≠ 0 ∧ (f_X3_read s a c).2 = (f_X8_readAll t).1 70 5 ∧ (f_X3_read s a c).1.1 34 3 = (f_X8_readAll t).1 70 5) ∨ (∃ sm B P, f_X3_read s a c = (f_X3_finish sm, (f_X3_finish sm).1 34 3) ∧ SM c S 0 P B sm (f_X8_readAll t) ∧ P = gI (f_X8_readAll t) 76 S ∧ 1 ≤ P ∧ sm.1 34 2 = sm.1 34 1 ∧ gI (f_X8_readAll t) 73 S ≤ 128) := by
  obtain ⟨b1, b2, b3, b4, b5, b6, b7, b8, b9, b10, b11⟩ := start_r (s := s) (a := a) hc
  have mn : min a 500 = a := by omega
  rw [mn] at b1
  have hps : PS (f_X3_start s a c) t := by
    unfold PS
    rw [b1, b2, b3, b8, t3, t4, t5]
    exact ⟨rfl, rfl, by omega, by omega, by omega, tx, rfl, rfl⟩
  have sm := SM.init hps b9 hS b5 b6 b7 b4 t73 t74 t75 t76 b10 b11
  have e : f_X3_read s a c = f_X3_read_ 1522 14 0 (f_X3_readProcedure (f_X3_start s a c)) := by
    obtain ⟨fin, kf⟩ : ∃ z, z = f_X3_read s a c := ⟨_, rfl⟩
    rewrite [← kf]
    unfold f_X3_read at kf
    rewrite [bd_r, bd_r] at kf
    exact kf
  have A := all_r hc S0 1522 0 (fun _ => 0) 0 _ _ sm t76.symm (by unfold ph; omega) (by omega)
  rw [show f_X8_readAll_ 1522 0 t = f_X8_readAll t from rfl] at A
  rw [e]
  obtain ⟨A1, A2⟩ := A
  rw [b2] at A1
  rcases A2 with ⟨k, s', r1, r2⟩ | ⟨k, s', sm', B', P', r1, r2, r3, r3', r4, r5, r6, r7⟩
  · left
    have q := r2.2.1 r2.1
    by_cases z : (f_X3_readProcedure (f_X3_start s a c)).1 34 3 = 0
    · have y := A1 z
      have rb := read_bad r1 (by omega) y.2 (by rw [q]; exact r2.1)
      rw [rb]
      exact ⟨r2.1, q, q⟩
    · cases k with
      | zero =>
        have es : s' = f_X3_readProcedure (f_X3_start s a c) := r1
        rw [show (1522 : Nat) = 1521 + 1 from rfl, read_b z, ← es]
        exact ⟨r2.1, q, q⟩
      | succ k =>
        obtain ⟨x, hx, _⟩ := r1
        exact absurd hx.1 z
  · right
    have z : (f_X3_readProcedure (f_X3_start s a c)).1 34 3 = 0 := by
      cases k with
      | zero => have es : s' = f_X3_readProcedure (f_X3_start s a c) := r1; rw [← es]; exact r2
      | succ k => obtain ⟨x, hx, _⟩ := r1; exact hx.1
    have y := A1 z
    have oq : (f_X3_look s').1.1 34 7 = 0 := by rw [r3]; exact r4.2.1.2.2.2.2.2.2.2
    have re := read_end r1 (by omega) r2 (RUN.pl r1 y.2 r2) oq (by rw [r3])
    rw [re, r3]
    exact ⟨sm', B', P', rfl, r4, r5, r6, SM.eot hc r4 r3', by have x1 := r4.2.1.1.2.2.2.2.1; have x2 := r4.1.2.2.2.1; have x3 := r4.1.2.2.2.2.1; unfold ph at r7; omega⟩

