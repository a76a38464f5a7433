/-! by way, in the reference: what stands on all ways -/
section E
variable {c : Nat} {S : Int} {F : Nat → Nat → Int} {s : ST}
/-- the two ways of a statement are the class's -/
theorem wof_r (hr : RS F s) (hS : F 70 6 = S) (b : BRI c S F) (h01 : H01 F) {k : Int} (k0 : 0 ≤ k) (k1 : k < F c 0) : ∃ A, -1 ≤ A ∧ A < F c 0 ∧ en (F (c + 3) k.toNat) A = F (c + 12) k.toNat ∧ ((¬ cDE c F k ∧ f_X8_wayOf_x2 s k 0 = A ∧ f_X8_wayOf_x2 s k 1 = -2) ∨ (cDE c F k ∧ ∃ D, -1 ≤ D ∧ D < F c 0 ∧ en (F (c + 3) k.toNat) D = F (c + 13) k.toNat ∧ ((f_X8_wayOf_x2 s k 0 = A ∧ f_X8_wayOf_x2 s k 1 = D) ∨ (f_X8_wayOf_x2 s k 0 = D ∧ f_X8_wayOf_x2 s k 1 = A)))) := by
  obtain ⟨_, _, _, _, _, _, _, _, _, kn, _, _, r95, r97, r98, r96, s12, s13, _⟩ := b.2.2.2.2.2.1 k k0 k1
  have kd := (b.2.2.2.2.1.2.2.2.2.1 k k0 k1).1
  have n40 := b.2.2.2.2.1.1
  have e10 : ¬ (1 : Int) = 0 := by decide
  have g70 : s.1 70 6 = S := by rw [hr.g (q := 70) (j := 6) (by omega), hS]
  have g95 : s.1 95 (40 * S + k).toNat = F 95 (40 * S + k).toNat := hr.g (by omega)
  have g98 : s.1 98 (40 * S + k).toNat = F 98 (40 * S + k).toNat := hr.g (by omega)
  have ek := kind_r8 hr hS b k0 k1
  have th := thr_r8 hr hS b h01 k0 k1
  have wy := fun e => way_r8 hr hS b h01 (e := e) k0 k1
  have cl : ∀ e, f_X8_wayOf_x2 s k e = if F (c + 2) k.toNat = 1 then (if ¬ e = 0 then (if f_X8_isThrowing_x2 s k = 0 then -2 else F 98 (40 * S + k).toNat) else F 95 (40 * S + k).toNat) else if F (c + 2) k.toNat = 2 then rW c S F k e else if F (c + 2) k.toNat = 3 then rW c S F k e else if F (c + 2) k.toNat = 4 then (if ¬ e = 0 then F 95 (40 * S + k).toNat else F 98 (40 * S + k).toNat) else if F (c + 2) k.toNat = 5 then (if ¬ e = 0 then F 95 (40 * S + k).toNat else -1) else if ¬ e = 0 then -2 else F 95 (40 * S + k).toNat := fun e => by
    unfold f_X8_wayOf_x2
    simp only [bd_r]
    rw [g70, ek, g95, g98, wy e]
  have c06 : F (c + 2) k.toNat = 0 ∨ F (c + 2) k.toNat = 1 ∨ F (c + 2) k.toNat = 2 ∨ F (c + 2) k.toNat = 3 ∨ F (c + 2) k.toNat = 4 ∨ F (c + 2) k.toNat = 5 := by omega
  rcases c06 with z | z | z | z | z | z
  · rw [if_neg (show ¬ F (c + 2) k.toNat = 2 by omega)] at s12
    have nd : ¬ cDE c F k := fun g => by rcases g with g | g <;> omega
    refine ⟨_, r95.1, r95.2, s12.symm, Or.inl ⟨nd, ?_, ?_⟩⟩
    · rw [cl, z]; rfl
    · rw [cl, z]; rfl
  · rw [if_neg (show ¬ F (c + 2) k.toNat = 2 by omega)] at s12
    rw [if_neg (show ¬ F (c + 2) k.toNat = 5 by omega), if_neg (show ¬ (F (c + 2) k.toNat = 2 ∨ F (c + 2) k.toNat = 3) by omega)] at s13
    refine ⟨_, r95.1, r95.2, s12.symm, ?_⟩
    have w0 : f_X8_wayOf_x2 s k 0 = F 95 (40 * S + k).toNat := by rw [cl, if_pos z, if_neg (fun w => w rfl)]
    by_cases t : f_X8_isThrowing_x2 s k = 0
    · refine Or.inl ⟨fun g => ?_, w0, ?_⟩
      · rcases g with g | g
        · exact th.mp t g
        · exact g.1 z
      · rw [cl, if_pos z, if_pos e10, if_pos t]
    · refine Or.inr ⟨Or.inl (Classical.byContradiction (fun w => t (th.mpr w))), _, r98.1, r98.2, s13.symm, Or.inl ⟨w0, ?_⟩⟩
      rw [cl, if_pos z, if_pos e10, if_neg t]
  · have r := r96 (Or.inl z)
    rw [if_pos z] at s12
    rw [if_neg (show ¬ F (c + 2) k.toNat = 5 by omega), if_pos (Or.inl z)] at s13
    refine ⟨_, r97.1, r97.2, s12.symm, Or.inr ⟨de_n (Or.inl z), _, r.1, r.2, s13.symm, Or.inr ⟨?_, ?_⟩⟩⟩
    · rw [cl, if_neg (show ¬ F (c + 2) k.toNat = 1 by omega), if_pos z, rW2 z, if_pos rfl]
    · rw [cl, if_neg (show ¬ F (c + 2) k.toNat = 1 by omega), if_pos z, rW2 z, if_neg e10]
  · have r := r96 (Or.inr z)
    rw [if_neg (show ¬ F (c + 2) k.toNat = 2 by omega)] at s12
    rw [if_neg (show ¬ F (c + 2) k.toNat = 5 by omega), if_pos (Or.inr z)] at s13
    refine ⟨_, r95.1, r95.2, s12.symm, Or.inr ⟨de_n (Or.inr (Or.inl z)), _, r.1, r.2, s13.symm, Or.inr ⟨?_, ?_⟩⟩⟩
    · rw [cl, if_neg (show ¬ F (c + 2) k.toNat = 1 by omega), if_neg (show ¬ F (c + 2) k.toNat = 2 by omega), if_pos z, rW3 z, if_pos rfl]
    · rw [cl, if_neg (show ¬ F (c + 2) k.toNat = 1 by omega), if_neg (show ¬ F (c + 2) k.toNat = 2 by omega), if_pos z, rW3 z, if_neg e10]
  · rw [if_neg (show ¬ F (c + 2) k.toNat = 2 by omega)] at s12
    rw [if_neg (show ¬ F (c + 2) k.toNat = 5 by omega), if_neg (show ¬ (F (c + 2) k.toNat = 2 ∨ F (c + 2) k.toNat = 3) by omega)] at s13
    refine ⟨_, r95.1, r95.2, s12.symm, Or.inr ⟨de_n (Or.inr (Or.inr (Or.inl z))), _, r98.1, r98.2, s13.symm, Or.inr ⟨?_, ?_⟩⟩⟩
    · rw [cl, z]; rfl
    · rw [cl, z]; rfl
  · rw [if_neg (show ¬ F (c + 2) k.toNat = 2 by omega)] at s12
    rw [if_pos z] at s13
    refine ⟨_, r95.1, r95.2, s12.symm, Or.inr ⟨de_n (Or.inr (Or.inr (Or.inr z))), -1, by decide, by omega, ?_, Or.inr ⟨?_, ?_⟩⟩⟩
    · rw [s13, en_1]
    · rw [cl, z]; rfl
    · rw [cl, z]; rfl
/-- in the rows of the reference -/
def OA (s : ST) (w u : Int) : Prop := w < 40 ∧ bt (s.2.1 106 w.toNat) u
theorem on_r (b : BRI c S F) {v o u : Int} (o0 : 0 ≤ o) (v0 : -1 ≤ v) (v1 : v < F c 0) : bt (f_X8_onAllFrom_x2 s v) u ↔ OA s (en o v) u := by
  have n40 := b.2.2.2.2.1.1
  unfold f_X8_onAllFrom_x2 OA
  by_cases z : v = -1
  · rw [if_neg (fun w => w z), z, en_1]
    exact ⟨fun w => absurd w bt_0, fun w => by omega⟩
  · rw [if_pos z, bd_r, en_n z]
    exact ⟨fun w => ⟨by omega, w⟩, fun w => w.2⟩
def FRX (c : Nat) (F : Nat → Nat → Int) (s : ST) (k u : Int) : Prop := u = k ∨ (OA s (F (c + 12) k.toNat) u ∧ (cDE c F k → OA s (F (c + 13) k.toNat) u))
/-- one row -/
theorem row_r (hr : RS F s) (hS : F 70 6 = S) (b : BRI c S F) (h01 : H01 F) {k : Int} (k0 : 0 ≤ k) (k1 : k < F c 0) (n : Nat) (l1 : Int) (a : Int64) (a5 a3 : Int) : ∃ m : Int64, (∀ u, 0 ≤ u → u < 64 → (bt m u ↔ FRX c F s k u)) ∧ f_X8_laysWay2_ (n + 1) 33 l1 k a a5 a3 s = (if ¬ l1 = 0 then f_X8_laysWay2_ n 33 1 (k + 1) 0 0 0 (sL s 106 k.toNat m) else if o_lcmp m (s.2.1 106 k.toNat) = 0 then f_X8_laysWay2_ n 33 0 (k + 1) 0 0 0 (sL s 106 k.toNat m) else f_X8_laysWay2_ n 33 1 (k + 1) 0 0 0 (sL s 106 k.toNat m)) := by
  have n40 := b.2.2.2.2.1.1
  have e := b.2.2.2.2.1.2.2.2.2.1 k k0 k1
  have o0 := e.2.2.1.1
  obtain ⟨A, A0, A1, hA, h⟩ := wof_r hr hS b h01 k0 k1
  have un : f_X8_laysWay2_ (n + 1) 33 l1 k a a5 a3 s = (if f_X8_wayOf_x2 s k 1 = (-2) then (if ¬ l1 = 0 then f_X8_laysWay2_ n 33 1 (k + 1) 0 0 0 (sL s 106 k.toNat (o_lor (f_X8_onAllFrom_x2 s (f_X8_wayOf_x2 s k 0)) (o_lshl (1 : Int64) k))) else if o_lcmp (o_lor (f_X8_onAllFrom_x2 s (f_X8_wayOf_x2 s k 0)) (o_lshl (1 : Int64) k)) (s.2.1 106 k.toNat) = 0 then f_X8_laysWay2_ n 33 0 (k + 1) 0 0 0 (sL s 106 k.toNat (o_lor (f_X8_onAllFrom_x2 s (f_X8_wayOf_x2 s k 0)) (o_lshl (1 : Int64) k))) else f_X8_laysWay2_ n 33 1 (k + 1) 0 0 0 (sL s 106 k.toNat (o_lor (f_X8_onAllFrom_x2 s (f_X8_wayOf_x2 s k 0)) (o_lshl (1 : Int64) k)))) else (if ¬ l1 = 0 then f_X8_laysWay2_ n 33 1 (k + 1) 0 0 0 (sL s 106 k.toNat (o_lor (o_land (f_X8_onAllFrom_x2 s (f_X8_wayOf_x2 s k 0)) (f_X8_onAllFrom_x2 s (f_X8_wayOf_x2 s k 1))) (o_lshl (1 : Int64) k))) else if o_lcmp (o_lor (o_land (f_X8_onAllFrom_x2 s (f_X8_wayOf_x2 s k 0)) (f_X8_onAllFrom_x2 s (f_X8_wayOf_x2 s k 1))) (o_lshl (1 : Int64) k)) (s.2.1 106 k.toNat) = 0 then f_X8_laysWay2_ n 33 0 (k + 1) 0 0 0 (sL s 106 k.toNat (o_lor (o_land (f_X8_onAllFrom_x2 s (f_X8_wayOf_x2 s k 0)) (f_X8_onAllFrom_x2 s (f_X8_wayOf_x2 s k 1))) (o_lshl (1 : Int64) k))) else f_X8_laysWay2_ n 33 1 (k + 1) 0 0 0 (sL s 106 k.toNat (o_lor (o_land (f_X8_onAllFrom_x2 s (f_X8_wayOf_x2 s k 0)) (f_X8_onAllFrom_x2 s (f_X8_wayOf_x2 s k 1))) (o_lshl (1 : Int64) k))))) := by
    rw [f_X8_laysWay2_, if_neg (by decide), if_neg (by decide), if_pos rfl, bd_r, bd_r, hr.g (q := 70) (j := 6) (by omega), hS, hr.g (q := 75) (by omega), b.2.2.1, if_neg (show ¬ F c 0 ≤ k by omega)]
    rfl
  have rA := fun u => on_r (s := s) b (u := u) o0 A0 A1
  rw [hA] at rA
  rw [un]
  rcases h with ⟨nd, h1, h2⟩ | ⟨d, D, D0, D1, hD, h⟩
  · rw [if_pos h2, h1]
    refine ⟨_, fun u u0 u1 => ?_, rfl⟩
    rw [lor_r, shl_r k0 (by omega) u0, rA]
    unfold FRX
    exact ⟨fun w => by rcases w with w | w; (exact Or.inr ⟨w, fun y => absurd y nd⟩); (exact Or.inl w), fun w => by rcases w with w | w; (exact Or.inr w); (exact Or.inl w.1)⟩
  · have rD := fun u => on_r (s := s) b (u := u) o0 D0 D1
    rw [hD] at rD
    rcases h with ⟨h1, h2⟩ | ⟨h1, h2⟩
    · rw [if_neg (by omega), h1, h2]
      refine ⟨_, fun u u0 u1 => ?_, rfl⟩
      rw [lor_r, shl_r k0 (by omega) u0, land_r, rA, rD]
      unfold FRX
      exact ⟨fun w => by rcases w with w | w; (exact Or.inr ⟨w.1, fun _ => w.2⟩); (exact Or.inl w), fun w => by rcases w with w | w; (exact Or.inr w); (exact Or.inl ⟨w.1, w.2 d⟩)⟩
    · rw [if_neg (by omega), h1, h2]
      refine ⟨_, fun u u0 u1 => ?_, rfl⟩
      rw [lor_r, shl_r k0 (by omega) u0, land_r, rA, rD]
      unfold FRX
      exact ⟨fun w => by rcases w with w | w; (exact Or.inr ⟨w.2, fun _ => w.1⟩); (exact Or.inl w), fun w => by rcases w with w | w; (exact Or.inr w); (exact Or.inl ⟨w.2 d, w.1⟩)⟩
end E
