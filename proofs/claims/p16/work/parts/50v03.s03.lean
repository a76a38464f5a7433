/-! one statement: what the class's machine does, beside what the reference does -/
/-- the class's unit is e (-1: the end) -/
def UMT (x : ST) (e : Int) : Prop := (e = -1 ∧ 40 ≤ x.1 64 4) ∨ (¬ e = -1 ∧ x.1 64 4 = e)
theorem UMT.of {x : ST} {q e : Int} (h : x.1 64 4 = en q e) (q0 : 0 ≤ q) : UMT x e := by
  unfold en at h
  by_cases z : e = -1
  · rw [if_pos z] at h; exact Or.inl ⟨z, by omega⟩
  · rw [if_neg z] at h; exact Or.inr ⟨z, h⟩
def XD (x : ST) : ST := sI x 64 5 (x.1 64 5 + 1)
def YD (y : ST) : ST := sI y 70 53 (y.1 70 53 + 1)
section D
variable {c : Nat} {S P L : Int} {T x y : ST} {EN FI EO BH TB O : Int → Int} {F : Nat → Nat → Int}
theorem REL.cc (r : REL c S F O L x y) : ∀ p, c ≤ p → p ≤ c + 15 → p < 64 := fun p p1 p2 => by
  have := r.2.1.2.2
  omega
theorem done_xy (r : REL c S F O L x y) (d : ¬ y.1 70 53 = 3000) : REL c S F O L (XD x) (YD y) := by
  have hc := r.cc
  obtain ⟨⟨r1, r2, r3, r4⟩, r5, r6, r7, r8, r9, r11, r12, r13⟩ := r
  unfold XD YD
  refine ⟨⟨by rw [sI_ne (by omega)]; exact r1, by rw [sI_ne (by omega)]; exact r2, r3, r4⟩, r5, fun p p1 p2 => by rw [sI_nc (by have := hc p p1 p2; omega)]; exact r6 p p1 p2, ⟨by rw [sI_ne (by omega)]; exact r7.1, by rw [sI_ne (by omega)]; exact r7.2.1, r7.2.2⟩, fun q q1 q2 => by rw [sI_nc (by omega)]; exact r8 q q1 q2, ⟨by rw [sI_eq, sI_eq, r9.1], by rw [sI_eq]; omega, by rw [sI_eq]; omega⟩, fun j hj => by rw [sI_ne (by omega), sI_ne (by omega)]; exact r11 j hj, fun l w a b d e => by rw [sI_ne (by omega), sI_ne (by omega)]; exact r12 l w a b d e, fun l a b => by rw [sI_ne (by omega)]; exact r13 l a b⟩
theorem step_go {k : Int} (r : REL c S F O L x y) (u : x.1 64 4 = k) (k0 : 0 ≤ k) (k1 : k < 40) (d : ¬ y.1 70 53 = 3000) : f_X2_step2 x = f_X2_perform2 (XD x) k := by
  unfold f_X2_step2
  have h := has_r (s := x) (x := (1099511627775 : Int64)) k0 (show k ≤ 63 by omega)
  rw [low_r k0] at h
  rw [bd_r, u, if_pos k1, bd_r, r.1.2.2.2, bd_r, if_pos (fun w => h.mp w k1), bd_r, if_pos (by have := r.2.2.2.2.2.1; omega), bd_r, bd_r]
  rfl
theorem step_cut {k : Int} (r : REL c S F O L x y) (u : x.1 64 4 = k) (k0 : 0 ≤ k) (k1 : k < 40) (d : y.1 70 53 = 3000) : (f_X2_step2 x).1 64 6 = 2 := by
  unfold f_X2_step2
  have h := has_r (s := x) (x := (1099511627775 : Int64)) k0 (show k ≤ 63 by omega)
  rw [low_r k0] at h
  rw [bd_r, u, if_pos k1, bd_r, r.1.2.2.2, bd_r, if_pos (fun w => h.mp w k1), bd_r, if_neg (by have := r.2.2.2.2.2.1; omega), bd_r, sI_eq]
theorem step_end (u : 40 ≤ x.1 64 4) : f_X2_step2 x = f_X2_leave2 x 0 0 := by
  unfold f_X2_step2
  rw [bd_r, if_neg (by omega), bd_r]
theorem num_eq (r : REL c S F O L x y) {a : Int} {i j : Int} (o : OV a (F 89 (2 * i + j).toNat)) : f_X2_load2 x a = f_X8_number_ y L i j := by
  unfold f_X8_number_
  rw [bd_r, bd_r, r.2.2.2.2.1 89 (by omega) (by omega)]
  exact load_eq r o
theorem comp_eq (r : REL c S F O L x y) {k i : Int} (st : STF c P T FI BH TB F i) (ek : gI T 78 i = k) : f_X2_compute2 x k = (if ¬ gI T 83 i = 0 then f_X8_worked y (gI T 83 i) (f_X8_number_ y L i 0) (f_X8_number_ y L i 1) else f_X8_number_ y L i 0) := by
  obtain ⟨_, _, _, _, _, _, _, o1, o2, sv, _⟩ := st
  rw [ek] at o1 o2 sv
  rw [← num_eq (j := 0) r (by rw [show 2 * i + 0 = 2 * i by omega]; exact o1), ← num_eq (j := 1) r o2]
  unfold f_X2_compute2 f_X8_worked
  rw [bd_r, r.1.2.2.1, bd_r, r.2.2.1 (c + 9) (by omega) (by omega), bd_r, bd_r, bd_r, r.2.2.1 (c + 10) (by omega) (by omega), bd_r, bd_r, bd_r, r.2.2.1 (c + 8) (by omega) (by omega)]
  generalize f_X2_load2 x (F (c + 9) k.toNat) = a
  generalize f_X2_load2 x (F (c + 10) k.toNat) = b
  rcases sv with ⟨s1, s2⟩ | ⟨s1, s2⟩
  · rw [s1, s2, if_neg (by decide), if_neg (by decide), if_neg (by decide), if_neg (by decide), if_neg (by decide)]
  · rw [s1]
    rcases s2 with s2 | s2 | s2 | s2 <;> rw [s2]
    · rw [if_neg (by decide), if_pos (by decide), bd_r, if_pos (by decide), if_neg (by decide)]
    · rw [if_neg (by decide), if_neg (by decide), if_pos (by decide), bd_r, if_pos (by decide), if_pos (by decide), if_neg (by decide)]
    · rw [if_pos (by decide), bd_r, if_pos (by decide), if_pos (by decide), if_pos (by decide), if_neg (by decide)]
    · rw [if_neg (by decide), if_neg (by decide), if_neg (by decide), if_pos (by decide), if_pos (show ¬ (60 : Int) = 0 by decide), if_pos (show ¬ (60 : Int) = 43 by decide), if_pos (show ¬ (60 : Int) = 45 by decide), if_pos (show ¬ (60 : Int) = 42 by decide)]
/-- a set -/
theorem do_set {k i v : Int} (r : REL c S F O L x y) (st : STF c P T FI BH TB F i) (ek : gI T 78 i = k) (kd : gI T 77 i = 0) (hv : v = f_X2_compute2 x k) (n9 : gI T 82 i ≤ 9) : REL c S F O L (f_X2_perform2 x k) (f_X8_sees_x (f_X8_tellsName_x y L (gI T 82 i) v) i v) ∧ UMT (f_X2_perform2 x k) (BH i) := by
  obtain ⟨_, _, s2, s6, s7, nm, _, _, _, _, s12, _, _, s79⟩ := st
  rw [ek] at s2 s6 s12
  have s := store_xy (v := v) r (nm (by omega)) n9
  have e := sees_y (i := i) (v := v) (see_x (k := k) (v := v) s)
  have hp : f_X2_perform2 x k = sI (f_X2_see2 (f_X2_store2 x (gI T 82 i) v) k v) 64 4 (F (c + 12) k.toNat) := by
    unfold f_X2_perform2
    rw [bd_r, r.1.2.2.1, bd_r, r.2.2.1 (c + 2) (by omega) (by omega), s2, kd, if_pos rfl, bd_r, bd_r, bd_r, r.2.2.1 (c + 6) (by omega) (by omega), s6, ← hv, bd_r, bd_r, bd_r, bd_r, bd_r, e.1.2.2.1, e.2.2.1 (c + 12) (by omega) (by omega)]
  rw [hp]
  refine ⟨e.ox (fun p j h => sI_ne (by omega)) rfl, UMT.of (q := gI T 79 i) ?_ s79⟩
  rw [sI_eq, s12]
  unfold vS
  rw [if_neg (by omega)]
/-- a test, a loop -/
theorem do_tst {k i : Int} (r : REL c S F O L x y) (st : STF c P T FI BH TB F i) (ek : gI T 78 i = k) (kd : gI T 77 i = 2 ∨ gI T 77 i = 3) : (f_X8_number_ y L i 1 ≤ f_X8_number_ y L i 0 → REL c S F O L (f_X2_perform2 x k) (f_X8_sees_x y i 0) ∧ UMT (f_X2_perform2 x k) (if gI T 77 i = 2 ∧ ¬ gI T 86 i = -1 then FI (gI T 86 i) else BH i)) ∧ (¬ f_X8_number_ y L i 1 ≤ f_X8_number_ y L i 0 → REL c S F O L (f_X2_perform2 x k) (f_X8_sees_x y i 1) ∧ UMT (f_X2_perform2 x k) (FI (gI T 85 i))) := by
  obtain ⟨_, _, s2, _, _, _, _, o1, o2, _, s12, s13, _, s79⟩ := st
  rw [ek] at s2 o1 o2 s12 s13
  rw [← num_eq (j := 0) r (by rw [show 2 * i + 0 = 2 * i by omega]; exact o1), ← num_eq (j := 1) r o2]
  have hp : f_X2_perform2 x k = if f_X2_load2 x (F (c + 10) k.toNat) ≤ f_X2_load2 x (F (c + 9) k.toNat) then sI (f_X2_see2 x k 0) 64 4 (F (c + 12) k.toNat) else sI (f_X2_see2 x k 1) 64 4 (F (c + 13) k.toNat) := by
    have e0 := see_x (k := k) (v := 0) r
    have e1 := see_x (k := k) (v := 1) r
    unfold f_X2_perform2
    rw [bd_r, r.1.2.2.1, bd_r, r.2.2.1 (c + 2) (by omega) (by omega), s2]
    rcases kd with kd | kd
    · rw [kd, if_neg (by decide), if_neg (by decide), if_pos rfl, bd_r, bd_r, r.2.2.1 (c + 9) (by omega) (by omega), bd_r, bd_r, bd_r, r.2.2.1 (c + 10) (by omega) (by omega), bd_r]
      split
      · rw [bd_r, bd_r, e0.1.2.2.1, bd_r, e0.2.2.1 (c + 12) (by omega) (by omega), bd_r]
      · rw [bd_r, bd_r, e1.1.2.2.1, bd_r, e1.2.2.1 (c + 13) (by omega) (by omega), bd_r]
    · rw [kd, if_neg (by decide), if_neg (by decide), if_neg (by decide), if_pos rfl, bd_r, bd_r, r.2.2.1 (c + 9) (by omega) (by omega), bd_r, bd_r, bd_r, r.2.2.1 (c + 10) (by omega) (by omega), bd_r]
      split
      · rw [bd_r, bd_r, e0.1.2.2.1, bd_r, e0.2.2.1 (c + 12) (by omega) (by omega), bd_r]
      · rw [bd_r, bd_r, e1.1.2.2.1, bd_r, e1.2.2.1 (c + 13) (by omega) (by omega), bd_r]
  refine ⟨fun h => ?_, fun h => ?_⟩
  · rw [hp, if_pos h]
    refine ⟨(sees_y (see_x r)).ox (fun p j h => sI_ne (by omega)) rfl, UMT.of (q := gI T 79 i) ?_ s79⟩
    rw [sI_eq, s12]
    rfl
  · rw [hp, if_neg h]
    refine ⟨(sees_y (see_x r)).ox (fun p j h => sI_ne (by omega)) rfl, UMT.of (q := gI T 79 i) ?_ s79⟩
    rw [sI_eq, s13]
    unfold vA
    rw [if_neg (by omega), if_pos kd]
/-- a return -/
theorem do_ret {k i : Int} (r : REL c S F O L x y) (st : STF c P T FI BH TB F i) (ek : gI T 78 i = k) (kd : gI T 77 i = 5) : ∃ x1, REL c S F O L x1 (sI (f_X8_sees_x y i (f_X8_number_ y L i 0)) 70 52 (f_X8_number_ y L i 0)) ∧ f_X2_perform2 x k = f_X2_leave2 x1 (f_X8_number_ y L i 0) 0 := by
  obtain ⟨_, _, s2, _, _, _, _, o1, _⟩ := st
  rw [ek] at s2 o1
  have ne := num_eq (j := 0) r (show OV (F (c + 9) k.toNat) (F 89 (2 * i + 0).toNat) by rw [show 2 * i + 0 = 2 * i by omega]; exact o1)
  obtain ⟨v, hv⟩ : ∃ v, v = f_X8_number_ y L i 0 := ⟨_, rfl⟩
  rw [← hv] at ne ⊢
  have e := see_x (k := k) (v := v) r
  have ld : f_X2_load2 (f_X2_see2 x k v) (F (c + 9) k.toNat) = v := by
    rw [load_eq e (by rw [show 2 * i = 2 * i + 0 by omega] at o1; exact o1), ← load_eq r (by rw [show 2 * i = 2 * i + 0 by omega] at o1; exact o1)]
    exact ne
  refine ⟨f_X2_see2 x k v, (sees_y e).oy (fun p j h => sI_ne (by omega)) rfl, ?_⟩
  unfold f_X2_perform2
  rw [bd_r, r.1.2.2.1, bd_r, r.2.2.1 (c + 2) (by omega) (by omega), s2, kd, if_neg (by decide), if_neg (by decide), if_neg (by decide), if_neg (by decide), if_neg (by decide), bd_r, bd_r, r.2.2.1 (c + 9) (by omega) (by omega), bd_r, ne, bd_r, bd_r, e.1.2.2.1, bd_r, e.2.2.1 (c + 9) (by omega) (by omega), bd_r, ld, bd_r]
/-- a throw -/
theorem do_thr {k i : Int} (r : REL c S F O L x y) (st : STF c P T FI BH TB F i) (ek : gI T 78 i = k) (kd : gI T 77 i = 4) : ∃ x1, REL c S F O L x1 (sI (f_X8_sees_x y i (f_X8_number_ y L i 0)) 70 52 (f_X8_number_ y L i 0)) ∧ f_X2_perform2 x k = f_X2_raise2 x1 k (f_X8_number_ y L i 0) := by
  obtain ⟨_, _, s2, _, _, _, _, o1, _⟩ := st
  rw [ek] at s2 o1
  have ne := num_eq (j := 0) r (show OV (F (c + 9) k.toNat) (F 89 (2 * i + 0).toNat) by rw [show 2 * i + 0 = 2 * i by omega]; exact o1)
  obtain ⟨v, hv⟩ : ∃ v, v = f_X8_number_ y L i 0 := ⟨_, rfl⟩
  rw [← hv] at ne ⊢
  have e := see_x (k := k) (v := v) r
  have ld : f_X2_load2 (f_X2_see2 x k v) (F (c + 9) k.toNat) = v := by
    rw [load_eq e (by rw [show 2 * i = 2 * i + 0 by omega] at o1; exact o1), ← load_eq r (by rw [show 2 * i = 2 * i + 0 by omega] at o1; exact o1)]
    exact ne
  refine ⟨f_X2_see2 x k v, (sees_y e).oy (fun p j h => sI_ne (by omega)) rfl, ?_⟩
  unfold f_X2_perform2
  rw [bd_r, r.1.2.2.1, bd_r, r.2.2.1 (c + 2) (by omega) (by omega), s2, kd, if_neg (by decide), if_neg (by decide), if_neg (by decide), if_neg (by decide), if_pos rfl, bd_r, bd_r, r.2.2.1 (c + 9) (by omega) (by omega), bd_r, ne, bd_r, bd_r, e.1.2.2.1, bd_r, e.2.2.1 (c + 9) (by omega) (by omega), bd_r, ld, bd_r]
end D
