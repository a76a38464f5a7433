/-! runs: the class's machine beside the reference's runs -/
/-- what both sides read of one statement: item i of the tree T, statement k of code c -/
def STF (c : Nat) (P : Int) (T : ST) (FI BH TB : Int → Int) (F : Nat → Nat → Int) (i : Int) : Prop := (0 ≤ gI T 78 i ∧ gI T 78 i < 40) ∧ (0 ≤ gI T 77 i ∧ gI T 77 i ≤ 5) ∧ F (c + 2) (gI T 78 i).toNat = gI T 77 i ∧ F (c + 6) (gI T 78 i).toNat = gI T 82 i ∧ F (c + 7) (gI T 78 i).toNat = gI T 84 i ∧ (gI T 77 i ≤ 1 → 0 ≤ gI T 82 i) ∧ (gI T 77 i = 1 → 0 ≤ gI T 84 i ∧ gI T 84 i < P) ∧ OV (F (c + 9) (gI T 78 i).toNat) (F 89 (2 * i).toNat) ∧ OV (F (c + 10) (gI T 78 i).toNat) (F 89 (2 * i + 1).toNat) ∧ SV (F (c + 8) (gI T 78 i).toNat) (gI T 83 i) ∧ F (c + 12) (gI T 78 i).toNat = vS T FI BH i ∧ F (c + 13) (gI T 78 i).toNat = vA T FI TB i ∧ F (c + 14) (gI T 78 i).toNat = vV T TB i ∧ 0 ≤ gI T 79 i
/-- what both sides' runs read of the text -/
def RNF (c : Nat) (S P : Int) (T : ST) (EN FI EO BH TB : Int → Int) (F : Nat → Nat → Int) : Prop := (c = 2 ∨ c = 18) ∧ (0 ≤ S ∧ 1 ≤ P ∧ P ≤ 5) ∧ WQ T S EN FI EO BH TB ∧ TXR T S ∧ (∀ (q : Nat) (i : Int), 77 ≤ q → q ≤ 88 → CJ T S i → F q i.toNat = gI T q i) ∧ (∀ b, CB T S b → F 90 b.toNat = gI T 90 b) ∧ (∀ p, 0 ≤ p → p < P → F 94 (5 * S + p).toNat = gI T 94 (5 * S + p) ∧ CB T S (gI T 94 (5 * S + p)) ∧ gI T 92 (gI T 94 (5 * S + p)) = -1 ∧ F (c + 1) p.toNat = en p (FI (gI T 94 (5 * S + p)))) ∧ (∀ i, CJ T S i → gI T 77 i = 6 → 0 ≤ gI T 82 i ∧ gI T 82 i < 6 ∧ ¬ gI T 86 i = gI T 85 i) ∧ (∀ i, CJ T S i → ¬ gI T 77 i = 6 → STF c P T FI BH TB F i) ∧ gI T 73 S ≤ 130
/-- the two sides' runs beside each other, L calls deep -/
def REL (c : Nat) (S : Int) (F : Nat → Nat → Int) (O : Int → Int) (L : Int) (x y : ST) : Prop := (x.1 64 3 = L ∧ x.1 64 6 = 3 ∧ x.2.2 64 11 = c ∧ x.2.1 64 12 = 1099511627775) ∧ (0 ≤ L ∧ L ≤ 30 ∧ c ≤ 18) ∧ (∀ p, c ≤ p → p ≤ c + 15 → x.1 p = F p) ∧ (y.1 70 6 = S ∧ y.1 70 29 = S ∧ y.2.1 70 55 = -1) ∧ (∀ q, 73 ≤ q → q ≤ 102 → y.1 q = F q) ∧ (x.1 64 5 = y.1 70 53 ∧ 0 ≤ y.1 70 53 ∧ y.1 70 53 ≤ 3000) ∧ (∀ j : Nat, j < 4 → x.1 65 j = y.1 113 j) ∧ (∀ l v : Int, 0 ≤ l → l ≤ L → 0 ≤ v → v < 6 → x.1 66 (6 * l + v).toNat = y.1 114 (6 * l + v).toNat) ∧ (∀ l, 1 ≤ l → l ≤ L → x.1 67 l.toNat = O l)
section R
variable {c : Nat} {S P L : Int} {T x y : ST} {EN FI EO BH TB O : Int → Int} {F : Nat → Nat → Int}
/-- a number that an operand gives -/
theorem load_eq (r : REL c S F O L x y) {a q : Int} (o : OV a q) : f_X2_load2 x a = f_X8_number y L q := by
  obtain ⟨⟨r1, _⟩, r2, _, _, _, _, r7, r8, _⟩ := r
  unfold f_X2_load2 f_X8_number
  rcases o with ⟨o1, o2⟩ | ⟨o1, o2, o3⟩ | ⟨o1, o2, o3⟩
  · rw [if_neg (by omega), if_neg (by omega), o2]
  · rw [if_pos o1, if_pos (show a < 10 by omega), if_pos (show 1000 ≤ q by omega)]
    by_cases z : a < 6
    · rw [if_pos z, if_neg (by omega), bd_r, bd_r, bd_r, r1]
      have e := r8 L a (by omega) (by omega) o1 z
      rw [show L * 6 + a = 6 * L + a by omega, e, show 6 * L + q - 1000 = 6 * L + a by omega]
    · rw [if_neg z, if_pos (by omega), bd_r, bd_r]
      have e := r7 (a - 6).toNat (by omega)
      rw [e, show q - 1006 = a - 6 by omega]
  · rw [if_pos (by omega), if_neg (by omega), if_neg (by omega)]
    omega
/-- cells that only one side has: nothing of it changes -/
theorem REL.ox {x' : ST} (r : REL c S F O L x y) (i : ∀ p j, ¬ (p = 68 ∨ p = 69 ∨ (p = 64 ∧ (j = 4 ∨ j = 7 ∨ j = 10))) → x'.1 p j = x.1 p j) (e : x'.2 = x.2) : REL c S F O L x' y := by
  obtain ⟨⟨r1, r2, r3, r4⟩, r5, r6, r7, r8, ⟨r9, r10⟩, r11, r12, r13⟩ := r
  refine ⟨⟨by rw [i 64 3 (by omega)]; exact r1, by rw [i 64 6 (by omega)]; exact r2, by rw [e]; exact r3, by rw [e]; exact r4⟩, r5, fun p p1 p2 => ?_, r7, r8, ⟨by rw [i 64 5 (by omega)]; exact r9, r10⟩, fun j hj => by rw [i 65 j (by omega)]; exact r11 j hj, fun l v l0 l1 v0 v1 => by rw [i 66 _ (by omega)]; exact r12 l v l0 l1 v0 v1, fun l l0 l1 => by rw [i 67 _ (by omega)]; exact r13 l l0 l1⟩
  rw [← r6 p p1 p2]
  have hc := r5.2.2
  funext j
  exact i p j (by omega)
theorem REL.oy {y' : ST} (r : REL c S F O L x y) (i : ∀ p j, ¬ (p = 115 ∨ p = 116 ∨ (p = 70 ∧ (j = 52 ∨ j = 54))) → y'.1 p j = y.1 p j) (e : y'.2 = y.2) : REL c S F O L x y' := by
  obtain ⟨r1, r5, r6, ⟨r7, r7b, r7c⟩, r8, ⟨r9, r10⟩, r11, r12, r13⟩ := r
  refine ⟨r1, r5, r6, ⟨by rw [i 70 6 (by omega)]; exact r7, by rw [i 70 29 (by omega)]; exact r7b, by rw [e]; exact r7c⟩, fun q q1 q2 => ?_, ⟨by rw [i 70 53 (by omega)]; exact r9, by rw [i 70 53 (by omega)]; exact r10⟩, fun j hj => by rw [i 113 j (by omega)]; exact r11 j hj, fun l v l0 l1 v0 v1 => by rw [i 114 _ (by omega)]; exact r12 l v l0 l1 v0 v1, r13⟩
  rw [← r8 q q1 q2]
  funext j
  exact i q j (by omega)
theorem see_x {k v : Int} (r : REL c S F O L x y) : REL c S F O L (f_X2_see2 x k v) y := by
  have h : (∀ p j, ¬ (p = 68 ∨ p = 69 ∨ (p = 64 ∧ (j = 4 ∨ j = 7 ∨ j = 10))) → (f_X2_see2 x k v).1 p j = x.1 p j) ∧ (f_X2_see2 x k v).2 = x.2 := by
    unfold f_X2_see2
    rw [bd_r]
    by_cases z : 500 ≤ x.1 64 10
    · rw [if_pos z]; exact ⟨fun _ _ _ => rfl, rfl⟩
    · rw [if_neg z, bd_r, bd_r, bd_r]
      exact ⟨fun p j h => by rw [sI_ne (by omega), sI_ne (by omega), sI_ne (by omega)], rfl⟩
  exact r.ox h.1 h.2
theorem sees_y {i v : Int} (r : REL c S F O L x y) : REL c S F O L x (f_X8_sees_x y i v) := by
  have h : (∀ p j, ¬ (p = 115 ∨ p = 116 ∨ (p = 70 ∧ (j = 52 ∨ j = 54))) → (f_X8_sees_x y i v).1 p j = y.1 p j) ∧ (f_X8_sees_x y i v).2 = y.2 := by
    unfold f_X8_sees_x
    rw [bd_r]
    by_cases z : y.1 70 54 = 500
    · rw [if_neg (fun w => w z)]; exact ⟨fun _ _ _ => rfl, rfl⟩
    · rw [if_pos z, bd_r, bd_r, bd_r, bd_r]
      exact ⟨fun p j h => by rw [sI_ne (by omega), sI_ne (by omega), sI_ne (by omega)], rfl⟩
  exact r.oy h.1 h.2
/-- both sides put a number into a name -/
theorem store_xy {n v : Int} (r : REL c S F O L x y) (n0 : 0 ≤ n) (n1 : n ≤ 9) : REL c S F O L (f_X2_store2 x n v) (f_X8_tellsName_x y L n v) := by
  obtain ⟨⟨r1, r2, r3, r4⟩, r5, r6, r7, r8, r9, r11, r12, r13⟩ := r
  have hc : ∀ p, c ≤ p → p ≤ c + 15 → p ≠ 65 ∧ p ≠ 66 := fun p p1 p2 => by
    have := r5.2.2
    omega
  unfold f_X2_store2 f_X8_tellsName_x
  by_cases z : n < 6
  · rw [if_pos z, if_neg (by omega), if_neg (by omega), bd_r, bd_r, bd_r, r1, show L * 6 + n = 6 * L + n by omega]
    refine ⟨⟨by rw [sI_ne (by omega)]; exact r1, by rw [sI_ne (by omega)]; exact r2, r3, r4⟩, r5, fun p p1 p2 => by rw [sI_nc (hc p p1 p2).2]; exact r6 p p1 p2, ⟨by rw [sI_ne (by omega)]; exact r7.1, by rw [sI_ne (by omega)]; exact r7.2.1, r7.2.2⟩, fun q q1 q2 => by rw [sI_nc (by omega)]; exact r8 q q1 q2, ⟨by rw [sI_ne (by omega), sI_ne (by omega)]; exact r9.1, by rw [sI_ne (by omega)]; exact r9.2⟩, fun j hj => by rw [sI_ne (by omega), sI_ne (by omega)]; exact r11 j hj, fun l w l0 l1 w0 w1 => ?_, fun l l0 l1 => by rw [sI_ne (by omega)]; exact r13 l l0 l1⟩
    by_cases k : (6 * l + w).toNat = (6 * L + n).toNat
    · rw [k, sI_eq, sI_eq]
    · rw [sI_ne (fun q => k q.2), sI_ne (fun q => k q.2)]
      exact r12 l w l0 l1 w0 w1
  · rw [if_neg z, if_pos (by omega), bd_r, bd_r]
    refine ⟨⟨by rw [sI_ne (by omega)]; exact r1, by rw [sI_ne (by omega)]; exact r2, r3, r4⟩, r5, fun p p1 p2 => by rw [sI_nc (hc p p1 p2).1]; exact r6 p p1 p2, ⟨by rw [sI_ne (by omega)]; exact r7.1, by rw [sI_ne (by omega)]; exact r7.2.1, r7.2.2⟩, fun q q1 q2 => by rw [sI_nc (by omega)]; exact r8 q q1 q2, ⟨by rw [sI_ne (by omega), sI_ne (by omega)]; exact r9.1, by rw [sI_ne (by omega)]; exact r9.2⟩, fun j hj => ?_, fun l w l0 l1 w0 w1 => by rw [sI_ne (by omega), sI_ne (by omega)]; exact r12 l w l0 l1 w0 w1, fun l l0 l1 => by rw [sI_ne (by omega)]; exact r13 l l0 l1⟩
    by_cases k : j = (n - 6).toNat
    · rw [k, sI_eq, sI_eq]
    · rw [sI_ne (fun q => k q.2), sI_ne (fun q => k q.2)]
      exact r11 j hj
end R
