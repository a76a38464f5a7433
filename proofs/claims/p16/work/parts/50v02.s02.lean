/-! how the class closes calls -/
def ENDL (v t : Int) (z : ST) : ST := if t = 0 then sI (sI z 64 6 0) 64 7 v else sI (sI z 64 6 1) 64 7 v
/-- one call closed: back in the caller, it has seen the number -/
def POPS (v : Int) (z : ST) : ST := f_X2_see2 (sI z 64 3 (z.1 64 3 - 1)) (z.1 67 (z.1 64 3).toNat) v
/-- what is thrown or returned is taken, by statement k -/
def TAKE (q w : Nat) (k v : Int) (z : ST) : ST := sI (f_X2_store2 z (z.1 (z.2.2 64 11 + q) k.toNat) v) 64 4 ((f_X2_store2 z (z.1 (z.2.2 64 11 + q) k.toNat) v).1 ((f_X2_store2 z (z.1 (z.2.2 64 11 + q) k.toNat) v).2.2 64 11 + w) k.toNat)
theorem lv_t {v t : Int} : ∀ (n lab : Nat) (l : Int) (z : ST), f_X2_leave2_ n lab v t 1 l z = z := by
  intro n lab l z
  cases n with
  | zero => rw [f_X2_leave2_]
  | succ n =>
    rw [f_X2_leave2_]
    by_cases a : 31 ≤ l
    · rw [if_pos a, if_pos (by decide)]
    · rw [if_neg a, bd_r]
      by_cases b : z.1 64 3 ≤ 0
      · rw [if_pos b, if_pos (by decide)]
      · rw [if_neg b, if_pos (by decide)]
theorem lv_1 {v t l : Int} {n lab : Nat} {z : ST} (h : z.1 64 3 ≤ 0) (hl : l ≤ 30) : f_X2_leave2_ (n + 1) lab v t 0 l z = ENDL v t z := by
  rw [f_X2_leave2_, if_neg (by omega), bd_r, if_pos h, if_neg (fun w => w rfl)]
  unfold ENDL
  by_cases a : t = 0
  · rw [if_pos a, if_pos a]; rfl
  · rw [if_neg a, if_neg a]; rfl
theorem lv_2 {v t l : Int} {n lab : Nat} {z : ST} (h : ¬ z.1 64 3 ≤ 0) (hl : l ≤ 30) : f_X2_leave2_ (n + 1) lab v t 0 l z = if t = 0 then TAKE 6 12 (z.1 67 (z.1 64 3).toNat) v (POPS v z) else if (POPS v z).1 ((POPS v z).2.2 64 11 + 14) (z.1 67 (z.1 64 3).toNat).toNat < 0 then f_X2_leave2_ n 5 v t 0 (l + 1) (POPS v z) else TAKE 14 13 (z.1 67 (z.1 64 3).toNat) v (POPS v z) := by
  rw [f_X2_leave2_, if_neg (by omega), bd_r, if_neg h, if_neg (fun w => w rfl), bd_r, bd_r, bd_r]
  by_cases a : t = 0
  · rw [if_pos a, if_pos a]
    simp only [bd_r]
    rw [lv_t]
    rfl
  · rw [if_neg a, if_neg a, bd_r, bd_r]
    show (if (POPS v z).1 ((POPS v z).2.2 64 11 + 14) (z.1 67 (z.1 64 3).toNat).toNat < 0 then _ else _) = _
    by_cases b : (POPS v z).1 ((POPS v z).2.2 64 11 + 14) (z.1 67 (z.1 64 3).toNat).toNat < 0
    · rw [if_pos b, if_pos b]
      rfl
    · rw [if_neg b, if_neg b]
      simp only [bd_r]
      rw [lv_t]
      rfl
theorem pops_f {v : Int} {z : ST} : (POPS v z).1 64 3 = z.1 64 3 - 1 := by
  unfold POPS f_X2_see2
  rw [bd_r]
  by_cases a : 500 ≤ (sI z 64 3 (z.1 64 3 - 1)).1 64 10
  · rw [if_pos a, sI_eq]
  · rw [if_neg a, bd_r, bd_r, bd_r, sI_ne (by omega), sI_ne (by omega), sI_ne (by omega), sI_eq]
theorem lv_sh {v t : Int} : ∀ (f n n' lab lab' : Nat) (l l' : Int) (z : ST), z.1 64 3 = (f : Int) → (f : Int) + l ≤ 30 → (f : Int) + l' ≤ 30 → f + 1 < n → f + 1 < n' → f_X2_leave2_ n lab v t 0 l z = f_X2_leave2_ n' lab' v t 0 l' z := by
  intro f
  induction f with
  | zero =>
    intro n n' lab lab' l l' z hz hl hl' hn hn'
    obtain ⟨m, rfl⟩ : ∃ m, n = m + 1 := ⟨n - 1, by omega⟩
    obtain ⟨m', rfl⟩ : ∃ m, n' = m + 1 := ⟨n' - 1, by omega⟩
    rw [lv_1 (by omega) (by omega), lv_1 (by omega) (by omega)]
  | succ f ih =>
    intro n n' lab lab' l l' z hz hl hl' hn hn'
    obtain ⟨m, rfl⟩ : ∃ m, n = m + 1 := ⟨n - 1, by omega⟩
    obtain ⟨m', rfl⟩ : ∃ m, n' = m + 1 := ⟨n' - 1, by omega⟩
    rw [lv_2 (by omega) (by omega), lv_2 (by omega) (by omega)]
    by_cases a : t = 0
    · rw [if_pos a, if_pos a]
    · rw [if_neg a, if_neg a, ih m m' 5 5 (l + 1) (l' + 1) (POPS v z) (by rw [pops_f]; omega) (by omega) (by omega) (by omega) (by omega)]
/-- leave, from the lowest frame; from another one -/
theorem leave_0 {v t : Int} {z : ST} (h : z.1 64 3 = 0) : f_X2_leave2 z v t = ENDL v t z := by
  unfold f_X2_leave2
  exact lv_1 (n := 111) (by omega) (by omega)
theorem leave_s {v t L : Int} {z : ST} (h : z.1 64 3 = L) (l0 : 1 ≤ L) (l1 : L ≤ 30) : f_X2_leave2 z v t = if t = 0 then TAKE 6 12 (z.1 67 L.toNat) v (POPS v z) else if (POPS v z).1 ((POPS v z).2.2 64 11 + 14) (z.1 67 L.toNat).toNat < 0 then f_X2_leave2 (POPS v z) v t else TAKE 14 13 (z.1 67 L.toNat) v (POPS v z) := by
  unfold f_X2_leave2
  have e := lv_2 (v := v) (t := t) (l := 0) (n := 111) (lab := 5) (z := z) (by omega) (by omega)
  rw [e, h]
  by_cases a : t = 0
  · rw [if_pos a, if_pos a]
  · rw [if_neg a, if_neg a, lv_sh (L - 1).toNat 111 112 5 5 (0 + 1) 0 (POPS v z) (by rw [pops_f]; omega) (by omega) (by omega) (by omega) (by omega)]
section P
variable {c : Nat} {S L : Int} {x y : ST} {O : Int → Int} {F : Nat → Nat → Int}
/-- back one call -/
theorem pops_xy {v : Int} (r : REL c S F O L x y) (l0 : 1 ≤ L) : REL c S F O (L - 1) (POPS v x) y ∧ x.1 67 L.toNat = O L := by
  have rr := r
  obtain ⟨⟨r1, r2, r3, r4⟩, r5, r6, r7, r8, r9, r11, r12, r13⟩ := r
  refine ⟨?_, r13 L l0 (Int.le_refl _)⟩
  unfold POPS
  rw [r1]
  have hc : ∀ p, c ≤ p → p ≤ c + 15 → p ≠ 64 := fun p p1 p2 => by
    have := r5.2.2
    omega
  refine see_x ⟨⟨sI_eq _ _ _ _, by rw [sI_ne (by omega)]; exact r2, r3, r4⟩, ⟨by omega, by omega, r5.2.2⟩, fun p p1 p2 => by rw [sI_nc (hc p p1 p2)]; exact r6 p p1 p2, r7, r8, ⟨by rw [sI_ne (by omega)]; exact r9.1, r9.2⟩, fun j hj => by rw [sI_ne (by omega)]; exact r11 j hj, fun l w a b d e => by rw [sI_ne (by omega)]; exact r12 l w a (by omega) d e, fun l a b => by rw [sI_ne (by omega)]; exact r13 l a (by omega)⟩
/-- taken: put into the name, and on -/
theorem take_xy {q w : Nat} {k v n : Int} (r : REL c S F O L x y) (hq : q ≤ 15) (hn : F (c + q) k.toNat = n) (n0 : 0 ≤ n) (n1 : n ≤ 9) (hw : w ≤ 15) : REL c S F O L (TAKE q w k v x) (f_X8_tellsName_x y L n v) ∧ (TAKE q w k v x).1 64 4 = F (c + w) k.toNat := by
  have s := store_xy (v := v) r n0 n1
  unfold TAKE
  rw [r.1.2.2.1, r.2.2.1 (c + q) (by omega) (by omega), hn]
  have e : (f_X2_store2 x n v).1 ((f_X2_store2 x n v).2.2 64 11 + w) k.toNat = F (c + w) k.toNat := by
    rw [s.1.2.2.1, s.2.2.1 (c + w) (by omega) (by omega)]
  rw [e]
  exact ⟨s.ox (fun p j h => sI_ne (by omega)) rfl, sI_eq _ _ _ _⟩
end P
/-- some moves of the class's machine -/
def MVS : Nat → ST → ST → Prop
  | 0, x, x' => x' = x
  | m + 1, x, x' => x.1 64 6 = 3 ∧ MVS m (f_X2_step2 x) x'
theorem MVS.tr : ∀ (m k : Nat) (x y z : ST), MVS m x y → MVS k y z → MVS (m + k) x z := by
  intro m
  induction m with
  | zero =>
    intro k x y z a b
    have e : y = x := a
    rw [e] at b
    rw [Nat.zero_add]
    exact b
  | succ m ih =>
    intro k x y z a b
    rw [Nat.succ_add]
    exact ⟨a.1, ih k _ y z a.2 b⟩
theorem MVS.one {x : ST} (h : x.1 64 6 = 3) : MVS 1 x (f_X2_step2 x) := ⟨h, rfl⟩
/-- the machine's loop goes along them -/
theorem play_m : ∀ (m n lab : Nat) (l : Int) (x x' : ST), MVS m x x' → m < n → l + (m : Int) ≤ 1000000 → ¬ x'.1 64 6 = 3 → f_X2_play2_ n lab l x = (x', x'.1 64 6) := by
  intro m
  induction m with
  | zero =>
    intro n lab l x x' h hn hl he
    have e : x' = x := h
    obtain ⟨k, rfl⟩ : ∃ k, n = k + 1 := ⟨n - 1, by omega⟩
    rw [f_X2_play2_]
    rw [e] at he ⊢
    by_cases a : 1000000 ≤ l
    · rw [if_pos a, bd_r]
    · rw [if_neg a, bd_r, if_pos he]
  | succ m ih =>
    intro n lab l x x' h hn hl he
    obtain ⟨k, rfl⟩ : ∃ k, n = k + 1 := ⟨n - 1, by omega⟩
    rw [f_X2_play2_, if_neg (by omega), bd_r, if_neg (fun w => w h.1), bd_r]
    exact ih k 55 (l + 1) _ x' h.2 (by omega) (by omega) he

