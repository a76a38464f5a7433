/-! THE RELATION of both trees -/
def gI (s : ST) (c : Nat) (i : Int) : Int := s.1 c i.toNat
theorem gI_eq {s : ST} {c : Nat} {i a : Int} : gI (sI s c i.toNat a) c i = a := sI_eq _ _ _ _
theorem gI_nc {s : ST} {c d j : Nat} {i a : Int} (h : d ≠ c) : gI (sI s c j a) d i = gI s d i := by unfold gI; rw [sI_nc h]
theorem gI_ni {s : ST} {c : Nat} {i j a : Int} (h : 0 ≤ i) (hj : 0 ≤ j) (n : i ≠ j) : gI (sI s c j.toNat a) c i = gI s c i := sI_ne (by omega)
/-- the last item of a block as the first reader writes it -/
def lc (t : ST) (S b : Int) : Int := if b = -1 then -1 else if gI t 91 b = -1 then -1 else gI t 91 b - 130 * S
def CB (t : ST) (S b : Int) : Prop := 280 * S ≤ b ∧ b < 280 * S + gI t 74 S
def CJ (t : ST) (S i : Int) : Prop := 130 * S ≤ i ∧ i < 130 * S + gI t 73 S
def K1 (c : Nat) (S : Int) (s t : ST) : Prop := gI s c 0 = gI t 75 S ∧ gI s c 1 = gI t 76 S ∧ gI s 36 0 = gI t 73 S ∧ 0 ≤ gI t 75 S ∧ gI t 75 S ≤ 40 ∧ 0 ≤ gI t 73 S ∧ 0 ≤ gI t 74 S ∧ 0 ≤ gI t 76 S ∧ gI t 76 S ≤ 5 ∧ gI s c 3 = 0 ∧ gI s c 4 = 0
def K2 (c : Nat) (S : Int) (s t : ST) : Prop := ∀ k, 0 ≤ k → k < gI t 75 S → CJ t S (gI t 93 (40 * S + k)) ∧ gI t 78 (gI t 93 (40 * S + k)) = k ∧ gI s (c + 2) k = gI t 77 (gI t 93 (40 * S + k)) ∧ gI s (c + 3) k = gI t 79 (gI t 93 (40 * S + k)) ∧ gI s (c + 4) k = gI t 80 (gI t 93 (40 * S + k)) ∧ gI s (c + 5) k = gI t 81 (gI t 93 (40 * S + k)) ∧ gI s (c + 6) k = gI t 82 (gI t 93 (40 * S + k)) ∧ gI s (c + 7) k = gI t 84 (gI t 93 (40 * S + k))
def K3a (S : Int) (t : ST) (k : Int) : Prop := (gI t 78 (130 * S + k) = -1 ∧ gI t 77 (130 * S + k) = 6) ∨ (0 ≤ gI t 78 (130 * S + k) ∧ gI t 78 (130 * S + k) < gI t 75 S ∧ gI t 77 (130 * S + k) ≠ 6 ∧ gI t 93 (40 * S + gI t 78 (130 * S + k)) = 130 * S + k)
def K3b (S : Int) (s t : ST) (k : Int) : Prop := (gI s 38 k = -1 ∧ gI t 90 (gI t 88 (130 * S + k)) = 130 * S + k) ∨ (0 ≤ gI s 38 k ∧ gI s 38 k < k ∧ gI t 87 (130 * S + gI s 38 k) = 130 * S + k ∧ gI t 88 (130 * S + gI s 38 k) = gI t 88 (130 * S + k))
def OB (S : Int) (t : ST) (b i : Int) : Prop := b = -1 ∨ (CB t S b ∧ gI t 92 b = i)
def K3 (S : Int) (s t : ST) : Prop := ∀ k, 0 ≤ k → k < gI t 73 S → gI s 37 k = gI t 78 (130 * S + k) ∧ K3a S t k ∧ CB t S (gI t 88 (130 * S + k)) ∧ K3b S s t k ∧ gI s 39 k = lc t S (gI t 85 (130 * S + k)) ∧ gI s 40 k = lc t S (gI t 86 (130 * S + k)) ∧ (gI t 77 (130 * S + k) = 6 → gI s 41 k = gI t 82 (130 * S + k)) ∧ OB S t (gI t 85 (130 * S + k)) (130 * S + k) ∧ OB S t (gI t 86 (130 * S + k)) (130 * S + k)
def K4 (S : Int) (t : ST) : Prop := ∀ b, CB t S b → (gI t 91 b = -1 ∧ gI t 90 b = -1) ∨ (CJ t S (gI t 91 b) ∧ gI t 88 (gI t 91 b) = b ∧ gI t 87 (gI t 91 b) = -1 ∧ gI t 90 b ≠ -1)
def K5 (S : Int) (s t : ST) (pc : Int) : Prop := ∀ p, 0 ≤ p → p < pc → gI s 44 p = lc t S (gI t 94 (5 * S + p)) ∧ CB t S (gI t 94 (5 * S + p)) ∧ gI t 92 (gI t 94 (5 * S + p)) = -1
def K6 (S : Int) (s t : ST) (d : Int) (B : Int → Int) : Prop := ∀ e, 0 ≤ e → e < d → CB t S (B e) ∧ (gI t 92 (B e) = -1 ∨ CJ t S (gI t 92 (B e))) ∧ gI s 45 e = (if gI t 92 (B e) = -1 then -1 else gI t 92 (B e) - 130 * S) ∧ gI s 46 e = lc t S (B e) ∧ gI s 47 e = (if gI t 92 (B e) = -1 then 0 else if gI t 85 (gI t 92 (B e)) = -1 then 0 else 1)
def K7 (S : Int) (t : ST) (d pc : Int) (B : Int → Int) : Prop := ∀ e, 0 ≤ e → e < d → (∀ k, 0 ≤ k → k < gI t 73 S → gI t 85 (130 * S + k) ≠ B e ∧ gI t 86 (130 * S + k) ≠ B e) ∧ (∀ p, 0 ≤ p → p < pc → gI t 94 (5 * S + p) ≠ B e) ∧ (∀ e', e < e' → e' < d → B e ≠ B e' ∧ gI t 92 (B e) < gI t 92 (B e'))
def K9 (S : Int) (t : ST) (d : Int) (B : Int → Int) : Prop := (∀ x y, CJ t S x → CJ t S y → ¬ gI t 77 x = 6 → ¬ gI t 77 y = 6 → x < y → gI t 78 x < gI t 78 y) ∧ (∀ o x y, CJ t S o → CJ t S x → CJ t S y → gI t 85 o = gI t 88 x → gI t 86 o = gI t 88 y → x < y) ∧ (∀ e, 0 ≤ e → e < d → CJ t S (gI t 92 (B e)) → ∀ x y, CJ t S x → CJ t S y → gI t 85 (gI t 92 (B e)) = gI t 88 x → gI t 88 y = B e → x < y)
def K8 (S : Int) (t : ST) (d pc : Int) (B : Int → Int) : Prop := (∀ k, 0 ≤ k → k < gI t 73 S → (gI t 92 (gI t 88 (130 * S + k)) = -1 ∧ 0 ≤ gI t 79 (130 * S + k) ∧ ((gI t 79 (130 * S + k) < pc ∧ gI t 94 (5 * S + gI t 79 (130 * S + k)) = gI t 88 (130 * S + k)) ∨ (gI t 79 (130 * S + k) = pc ∧ 1 ≤ d ∧ gI t 88 (130 * S + k) = B 0))) ∨ (CJ t S (gI t 92 (gI t 88 (130 * S + k))) ∧ gI t 79 (gI t 92 (gI t 88 (130 * S + k))) = gI t 79 (130 * S + k) ∧ (gI t 85 (gI t 92 (gI t 88 (130 * S + k))) = gI t 88 (130 * S + k) ∨ gI t 86 (gI t 92 (gI t 88 (130 * S + k))) = gI t 88 (130 * S + k) ∨ ∃ e, 0 ≤ e ∧ e < d ∧ gI t 88 (130 * S + k) = B e))) ∧ (∀ e, 0 ≤ e → e < d → gI t 92 (B e) = -1 ∨ (gI t 79 (gI t 92 (B e)) = pc ∧ gI t 86 (gI t 92 (B e)) = -1 ∧ (gI t 77 (gI t 92 (B e)) = 2 ∨ gI t 77 (gI t 92 (B e)) = 6 ∨ (gI t 77 (gI t 92 (B e)) = 3 ∧ gI t 85 (gI t 92 (B e)) = -1)))) ∧ (1 ≤ d → gI t 76 S = pc + 1 ∧ 0 ≤ pc) ∧ (∀ x, CJ t S x → gI t 90 (gI t 88 x) ≠ -1 ∧ gI t 90 (gI t 88 x) ≤ x ∧ gI t 91 (gI t 88 x) ≠ -1) ∧ (∀ x y, CJ t S x → CJ t S y → gI t 88 x = gI t 88 y → x < y → gI t 87 x ≠ -1 ∧ gI t 87 x ≤ y) ∧ (∀ x, CJ t S x → (gI t 85 x = -1 ∨ (gI t 85 x ≠ gI t 86 x ∧ (gI t 77 x = 2 ∨ gI t 77 x = 3 ∨ gI t 77 x = 6))) ∧ (gI t 86 x = -1 ∨ gI t 77 x = 2 ∨ gI t 77 x = 6)) ∧ (∀ p p', 0 ≤ p → p < p' → p' < pc → gI t 94 (5 * S + p) ≠ gI t 94 (5 * S + p')) ∧ K9 S t d B
/-- d blocks stand open (B: their numbers), pc procedures are closed -/
def RR (c : Nat) (S d pc : Int) (B : Int → Int) (s t : ST) : Prop := K1 c S s t ∧ K2 c S s t ∧ K3 S s t ∧ K4 S t ∧ K5 S s t pc ∧ K6 S s t d B ∧ (K7 S t d pc B ∧ K8 S t d pc B) ∧ s.1 34 7 = d
def UP (f g : Int → Int) (i : Int) : Prop := ∀ j, 0 ≤ j → j ≠ i → g j = f j
theorem lc_c {t t' : ST} {S b : Int} (h : b ≠ -1 → gI t' 91 b = gI t 91 b) : lc t' S b = lc t S b := by
  unfold lc
  by_cases z : b = -1
  · rw [if_pos z, if_pos z]
  · rw [if_neg z, if_neg z, h z]
/-- a new item, its statement if it is one -/
theorem RR.item {c : Nat} {S d pc n m b l : Int} {B : Int → Int} {s t s' t' : ST} (S0 : 0 ≤ S) (h : RR c S d pc B s t) (hd : 1 ≤ d) (hb : b = B (d - 1)) (hm : m = gI t 73 S) (hn : n = gI t 75 S) (hl : l = gI t 91 b)
    (t73 : gI t' 73 S = m + 1) (t74 : gI t' 74 S = gI t 74 S) (t76 : gI t' 76 S = gI t 76 S)
    (t77 : UP (gI t 77) (gI t' 77) (130 * S + m)) (t78 : UP (gI t 78) (gI t' 78) (130 * S + m)) (t79 : UP (gI t 79) (gI t' 79) (130 * S + m)) (t80 : UP (gI t 80) (gI t' 80) (130 * S + m)) (t81 : UP (gI t 81) (gI t' 81) (130 * S + m)) (t82 : UP (gI t 82) (gI t' 82) (130 * S + m)) (t84 : UP (gI t 84) (gI t' 84) (130 * S + m)) (t85 : UP (gI t 85) (gI t' 85) (130 * S + m)) (t86 : UP (gI t 86) (gI t' 86) (130 * S + m)) (t88 : UP (gI t 88) (gI t' 88) (130 * S + m))
    (u85 : gI t' 85 (130 * S + m) = -1) (u86 : gI t' 86 (130 * S + m) = -1) (u88 : gI t' 88 (130 * S + m) = b) (u87 : gI t' 87 (130 * S + m) = -1)
    (t87 : ∀ j, 0 ≤ j → j ≠ 130 * S + m → j ≠ l → gI t' 87 j = gI t 87 j) (v87 : l ≠ -1 → gI t' 87 l = 130 * S + m)
    (t90 : UP (gI t 90) (gI t' 90) b) (v90 : gI t' 90 b = if gI t 90 b = -1 then 130 * S + m else gI t 90 b) (t91 : UP (gI t 91) (gI t' 91) b) (v91 : gI t' 91 b = 130 * S + m)
    (t92 : ∀ j, gI t' 92 j = gI t 92 j) (t94 : ∀ j, gI t' 94 j = gI t 94 j)
    (alt : (gI t' 75 S = n ∧ (∀ j, gI t' 93 j = gI t 93 j) ∧ gI t' 78 (130 * S + m) = -1 ∧ gI t' 77 (130 * S + m) = 6 ∧ gI s' 41 m = gI t' 82 (130 * S + m) ∧ (∀ q j, 2 ≤ q → q ≤ 7 → gI s' (c + q) j = gI s (c + q) j)) ∨ (gI t' 75 S = n + 1 ∧ n ≤ 39 ∧ UP (gI t 93) (gI t' 93) (40 * S + n) ∧ gI t' 93 (40 * S + n) = 130 * S + m ∧ gI t' 78 (130 * S + m) = n ∧ gI t' 77 (130 * S + m) ≠ 6 ∧ (∀ q, 2 ≤ q → q ≤ 7 → UP (gI s (c + q)) (gI s' (c + q)) n) ∧ gI s' (c + 2) n = gI t' 77 (130 * S + m) ∧ gI s' (c + 3) n = gI t' 79 (130 * S + m) ∧ gI s' (c + 4) n = gI t' 80 (130 * S + m) ∧ gI s' (c + 5) n = gI t' 81 (130 * S + m) ∧ gI s' (c + 6) n = gI t' 82 (130 * S + m) ∧ gI s' (c + 7) n = gI t' 84 (130 * S + m)))
    (sc0 : gI s' c 0 = gI t' 75 S) (sc1 : gI s' c 1 = gI s c 1) (s36 : gI s' 36 0 = m + 1) (s37 : UP (gI s 37) (gI s' 37) m) (v37 : gI s' 37 m = gI t' 78 (130 * S + m)) (s38 : UP (gI s 38) (gI s' 38) m) (v38 : gI s' 38 m = gI s 46 (d - 1)) (s39 : UP (gI s 39) (gI s' 39) m) (v39 : gI s' 39 m = -1) (s40 : UP (gI s 40) (gI s' 40) m) (v40 : gI s' 40 m = -1) (s41 : UP (gI s 41) (gI s' 41) m)
    (s44 : ∀ j, gI s' 44 j = gI s 44 j) (s45 : ∀ j, gI s' 45 j = gI s 45 j) (s46 : UP (gI s 46) (gI s' 46) (d - 1)) (v46 : gI s' 46 (d - 1) = m) (s47 : ∀ j, gI s' 47 j = gI s 47 j) (so : s'.1 34 7 = s.1 34 7) (u79 : gI t' 79 (130 * S + m) = pc) (sc3 : gI s' c 3 = gI s c 3) (sc4 : gI s' c 4 = gI s c 4) : RR c S d pc B s' t' := by
  obtain ⟨k1, k2, k3, k4, k5, k6, ⟨k7, k9⟩, k8⟩ := h
  obtain ⟨a1, a2, a3, a4, a5, a6, a7, a8, a9⟩ := k1
  have hB := k6 (d - 1) (by omega) (by omega)
  rw [← hb] at hB
  have hbb : CB t S b := hB.1
  have hb0 : 0 ≤ b := by have := hbb.1; omega
  have hlast := k4 b hbb
  have m0 : 0 ≤ m := by omega
  have cb : ∀ x, CB t S x → CB t' S x := fun x z => by unfold CB at *; rw [t74]; exact z
  have ci : ∀ x, CJ t S x → CJ t' S x := fun x z => by unfold CJ at *; rw [t73]; omega
  have cin : ∀ x, CJ t S x → 0 ≤ x ∧ x ≠ 130 * S + m := fun x z => by unfold CJ at z; omega
  have n75 : gI t 75 S ≤ gI t' 75 S := by rcases alt with z | z <;> omega
  have lck : ∀ x, x ≠ b → (x = -1 ∨ CB t S x) → lc t' S x = lc t S x := fun x z y => lc_c (fun q => t91 x (by rcases y with y | y; (exact absurd y q); (have := y.1; omega)) z)
  have k7d := k7 (d - 1) (by omega) (by omega)
  rw [← hb] at k7d
  have lb : lc t S b = gI s 46 (d - 1) := hB.2.2.2.1.symm
  refine ⟨?_, ?_, ?_, ?_, ?_, ?_, ⟨?_, ?_⟩, so.trans k8⟩
  · refine ⟨sc0, by rw [sc1, t76]; exact a2, by rw [s36, t73], by omega, by rcases alt with z | z <;> omega, by omega, by rw [t74]; exact a7, by rw [t76]; exact a8, by rw [t76]; exact a9.1, by rw [sc3]; exact a9.2.1, by rw [sc4]; exact a9.2.2⟩
  · intro k h0 h1
    by_cases hk : k < n
    · have q := k2 k h0 (by omega)
      have e93 : gI t' 93 (40 * S + k) = gI t 93 (40 * S + k) := by
        rcases alt with z | z
        · exact z.2.1 _
        · exact z.2.2.1 _ (by omega) (by omega)
      have sq : ∀ x, 2 ≤ x → x ≤ 7 → gI s' (c + x) k = gI s (c + x) k := fun x y1 y2 => by
        rcases alt with z | z
        · exact z.2.2.2.2.2 x k y1 y2
        · exact z.2.2.2.2.2.2.1 x y1 y2 k h0 (by omega)
      have ii := cin _ q.1
      rw [e93, t78 _ ii.1 ii.2, t77 _ ii.1 ii.2, t79 _ ii.1 ii.2, t80 _ ii.1 ii.2, t81 _ ii.1 ii.2, t82 _ ii.1 ii.2, t84 _ ii.1 ii.2, sq 2 (by omega) (by omega), sq 3 (by omega) (by omega), sq 4 (by omega) (by omega), sq 5 (by omega) (by omega), sq 6 (by omega) (by omega), sq 7 (by omega) (by omega)]
      exact ⟨ci _ q.1, q.2⟩
    · rcases alt with z | z
      · omega
      · have e : k = n := by omega
        subst e
        rw [z.2.2.2.1]
        refine ⟨by unfold CJ; rw [t73]; omega, z.2.2.2.2.1, z.2.2.2.2.2.2.2⟩
  · intro k h0 h1
    by_cases hk : k < m
    · obtain ⟨q1, q2, q3, q4, q5, q6, q7, q8, q9⟩ := k3 k h0 (by omega)
      have j0 : 0 ≤ 130 * S + k := by omega
      have j1 : 130 * S + k ≠ 130 * S + m := by omega
      rw [s37 k h0 (by omega), t78 _ j0 j1, t88 _ j0 j1, t85 _ j0 j1, t86 _ j0 j1, t77 _ j0 j1, t82 _ j0 j1, s39 k h0 (by omega), s40 k h0 (by omega), s41 k h0 (by omega)]
      have kk := k7d.1 k h0 (by omega)
      refine ⟨q1, ?_, cb _ q3, ?_, ?_, ?_, q7, ?_, ?_⟩
      · unfold K3a at q2 ⊢
        rw [t78 _ j0 j1, t77 _ j0 j1]
        rcases q2 with z | z
        · exact Or.inl z
        · refine Or.inr ⟨z.1, by omega, z.2.2.1, ?_⟩
          rcases alt with y | y
          · rw [y.2.1]; exact z.2.2.2
          · rw [y.2.2.1 _ (by omega) (by omega)]; exact z.2.2.2
      · unfold K3b at q4 ⊢
        rw [s38 k h0 (by omega), t88 _ j0 j1]
        rcases q4 with z | z
        · refine Or.inl ⟨z.1, ?_⟩
          by_cases y : gI t 88 (130 * S + k) = b
          · rw [y, v90, if_neg (by rw [← y, z.2]; omega), ← y]; exact z.2
          · rw [t90 _ (by have := q3.1; omega) y]; exact z.2
        · refine Or.inr ⟨z.1, z.2.1, ?_, ?_⟩
          · rw [t87 _ (by omega) (by omega) ?_]; exact z.2.2.1
            intro y
            rcases hlast with x | x
            · rw [hl] at y; omega
            · have x3 := x.2.2.1
              rw [← hl, ← y, z.2.2.1] at x3
              omega
          · rw [t88 _ (by omega) (by omega)]; exact z.2.2.2
      · rw [lck _ kk.1 (by rcases q8 with z | z; (exact Or.inl z); (exact Or.inr z.1))]; exact q5
      · rw [lck _ kk.2 (by rcases q9 with z | z; (exact Or.inl z); (exact Or.inr z.1))]; exact q6
      · unfold OB at q8 ⊢
        rcases q8 with z | z
        · exact Or.inl z
        · exact Or.inr ⟨cb _ z.1, by rw [t92]; exact z.2⟩
      · unfold OB at q9 ⊢
        rcases q9 with z | z
        · exact Or.inl z
        · exact Or.inr ⟨cb _ z.1, by rw [t92]; exact z.2⟩
    · have e : k = m := by omega
      subst e
      rw [u85, u86, u88]
      refine ⟨v37, ?_, cb _ hbb, ?_, ?_, ?_, ?_, Or.inl rfl, Or.inl rfl⟩
      · unfold K3a
        rcases alt with z | z
        · exact Or.inl ⟨z.2.2.1, z.2.2.2.1⟩
        · refine Or.inr ⟨by omega, by omega, z.2.2.2.2.2.1, ?_⟩
          rw [z.2.2.2.2.1]; exact z.2.2.2.1
      · unfold K3b
        rw [u88, v38, ← lb]
        unfold lc
        rw [if_neg (by omega), ← hl]
        rcases hlast with x | x
        · rw [if_pos (by omega)]
          refine Or.inl ⟨rfl, ?_⟩
          rw [v90, if_pos x.2]
        · have x1 := x.1
          rw [← hl] at x x1
          unfold CJ at x1
          rw [if_neg (by omega)]
          refine Or.inr ⟨by omega, by omega, ?_, ?_⟩
          · rw [show 130 * S + (l - 130 * S) = l by omega]; exact v87 (by omega)
          · rw [show 130 * S + (l - 130 * S) = l by omega, t88 _ (by omega) (by omega)]; exact x.2.1
      · rw [v39]; unfold lc; rw [if_pos rfl]
      · rw [v40]; unfold lc; rw [if_pos rfl]
      · intro y
        rcases alt with z | z
        · exact z.2.2.2.2.1
        · exact absurd y z.2.2.2.2.2.1
  · intro x hx
    have hx' : CB t S x := by unfold CB at *; rw [t74] at hx; exact hx
    by_cases y : x = b
    · subst y
      right
      rw [v91, u88, u87]
      refine ⟨by unfold CJ; rw [t73]; omega, rfl, rfl, ?_⟩
      rw [v90]
      by_cases w : gI t 90 x = -1
      · rw [if_pos w]; omega
      · rw [if_neg w]; exact w
    · have x0 : 0 ≤ x := by have := hx'.1; omega
      rw [t91 _ x0 y, t90 _ x0 y]
      rcases k4 x hx' with z | z
      · exact Or.inl z
      · right
        have ii := cin _ z.1
        refine ⟨ci _ z.1, by rw [t88 _ ii.1 ii.2]; exact z.2.1, ?_, z.2.2.2⟩
        rw [t87 _ ii.1 ii.2 ?_]; exact z.2.2.1
        intro w
        rcases hlast with v | v
        · rw [hl] at w; omega
        · have v2 := v.2.1
          rw [← hl, ← w, z.2.1] at v2
          exact y v2
  · intro p h0 h1
    have q := k5 p h0 h1
    have z := k7d.2.1 p h0 h1
    rw [s44, t94, lck _ z (Or.inr q.2.1), t92]
    exact ⟨q.1, cb _ q.2.1, q.2.2⟩
  · intro e h0 h1
    obtain ⟨q1, q2, q3, q4, q5⟩ := k6 e h0 h1
    rw [s45, s47, t92]
    refine ⟨cb _ q1, ?_, q3, ?_, ?_⟩
    · rcases q2 with z | z
      · exact Or.inl z
      · exact Or.inr (ci _ z)
    · by_cases y : e = d - 1
      · subst y
        rw [v46, ← hb]
        unfold lc
        rw [if_neg (by omega), v91, if_neg (by omega)]
        omega
      · rw [s46 e h0 y, lck _ ?_ (Or.inr q1)]; exact q4
        rw [hb]
        exact ((k7 e h0 h1).2.2 (d - 1) (by omega) (by omega)).1
    · rw [q5]
      by_cases y : gI t 92 (B e) = -1
      · rw [if_pos y, if_pos y]
      · rw [if_neg y, if_neg y]
        rcases q2 with z | z
        · exact absurd z y
        · have ii := cin _ z
          rw [t85 _ ii.1 ii.2]
  · intro e h0 h1
    obtain ⟨q1, q2, q3⟩ := k7 e h0 h1
    have be := (k6 e h0 h1).1
    refine ⟨fun k g0 g1 => ?_, fun p g0 g1 => by rw [t94]; exact q2 p g0 g1, fun e' g0 g1 => by rw [t92, t92]; exact q3 e' g0 g1⟩
    by_cases y : k = m
    · subst y
      rw [u85, u86]
      have := be.1
      omega
    · rw [t85 _ (by omega) (by omega), t86 _ (by omega) (by omega)]
      exact q1 k g0 (by omega)
  · have lz : ¬ l = -1 → CJ t S l ∧ gI t 88 l = b ∧ gI t 87 l = -1 := fun z => by
      rcases hlast with x | x
      · exact absurd (hl.trans x.1) z
      · rw [← hl] at x
        exact ⟨x.1, x.2.1, x.2.2.1⟩
    refine ⟨fun k h0 h1 => ?_, fun e h0 h1 => ?_, fun z => ?_, fun x hx => ?_, fun x y hx hy hxy lt => ?_, fun x hx => ?_, fun p p' h0 h1 h2 => by rw [t94, t94]; exact k9.2.2.2.2.2.2.1 p p' h0 h1 h2, ?_⟩
    · by_cases hk : k < m
      · have j0 : 0 ≤ 130 * S + k := by omega
        have j1 : 130 * S + k ≠ 130 * S + m := by omega
        rw [t88 _ j0 j1, t79 _ j0 j1, t92, t94]
        rcases k9.1 k h0 (by omega) with z | z
        · exact Or.inl z
        · refine Or.inr ⟨ci _ z.1, ?_⟩
          rw [t79 _ (cin _ z.1).1 (cin _ z.1).2, t85 _ (cin _ z.1).1 (cin _ z.1).2, t86 _ (cin _ z.1).1 (cin _ z.1).2]
          exact z.2
      · have e : k = m := by omega
        rw [e, u88, u79, t92, t94]
        rcases hB.2.1 with z | z
        · left
          refine ⟨z, (k9.2.2.1 hd).2, Or.inr ⟨rfl, hd, ?_⟩⟩
          by_cases y : d = 1
          · rw [hb, show d - 1 = 0 by omega]
          · have q := ((k7 0 (by omega) (by omega)).2.2 (d - 1) (by omega) (by omega)).2
            rw [← hb, z] at q
            rcases (k6 0 (by omega) (by omega)).2.1 with w | w
            · omega
            · have := w.1; omega
        · right
          refine ⟨ci _ z, ?_, Or.inr (Or.inr ⟨d - 1, by omega, by omega, hb⟩)⟩
          rw [t79 _ (cin _ z).1 (cin _ z).2]
          rcases k9.2.1 (d - 1) (by omega) (by omega) with y | y
          · rw [← hb] at y
            have := z.1
            omega
          · rw [← hb] at y
            exact y.1
    · rw [t92]
      rcases k9.2.1 e h0 h1 with z | z
      · exact Or.inl z
      · by_cases y : gI t 92 (B e) = -1
        · exact Or.inl y
        · right
          rcases (k6 e h0 h1).2.1 with w | w
          · exact absurd w y
          · rw [t79 _ (cin _ w).1 (cin _ w).2, t86 _ (cin _ w).1 (cin _ w).2, t77 _ (cin _ w).1 (cin _ w).2, t85 _ (cin _ w).1 (cin _ w).2]; exact z
    · rw [t76]; exact k9.2.2.1 z
    · by_cases e : x = 130 * S + m
      · rw [e, u88, v90, v91]
        by_cases w : gI t 90 b = -1
        · rw [if_pos w]
          omega
        · rw [if_neg w]
          rcases hlast with y | y
          · exact absurd y.2 w
          · have q := k9.2.2.2.1 _ y.1
            rw [y.2.1] at q
            have q1 := q.2.1
            have q2 := y.1.2
            exact ⟨w, by omega, by omega⟩
      · have hx' : CJ t S x := by unfold CJ at *; rw [t73] at hx; omega
        have q := k9.2.2.2.1 x hx'
        have cx := cin _ hx'
        rw [t88 _ cx.1 cx.2]
        by_cases y : gI t 88 x = b
        · rw [y] at q ⊢
          rw [v90, v91, if_neg q.1]
          exact ⟨q.1, q.2.1, by omega⟩
        · have q3 := (k3 (x - 130 * S) (by have := hx'.1; omega) (by have := hx'.2; omega)).2.2.1
          rw [show 130 * S + (x - 130 * S) = x by omega] at q3
          have c0 : 0 ≤ gI t 88 x := by have := q3.1; omega
          rw [t90 _ c0 y, t91 _ c0 y]
          exact q
    · have hx' : CJ t S x := by
        have hy2 := hy.2
        unfold CJ at *
        rw [t73] at hx hy2
        omega
      have cx := cin _ hx'
      rw [t88 _ cx.1 cx.2] at hxy
      by_cases e : y = 130 * S + m
      · rw [e, u88] at hxy
        have q := k9.2.2.2.1 x hx'
        rw [hxy, ← hl] at q
        have L := lz q.2.2
        by_cases w : x = l
        · rw [w, v87 q.2.2]
          omega
        · rw [t87 _ cx.1 cx.2 w]
          have lm := L.1.2
          rcases Int.lt_or_gt_of_ne w with v | v
          · have r := k9.2.2.2.2.1 x l hx' L.1 (hxy.trans L.2.1.symm) v
            exact ⟨r.1, by omega⟩
          · have r := k9.2.2.2.2.1 l x L.1 hx' (L.2.1.trans hxy.symm) v
            exact absurd L.2.2 r.1
      · have hy' : CJ t S y := by unfold CJ at *; rw [t73] at hy; omega
        have cy := cin _ hy'
        rw [t88 _ cy.1 cy.2] at hxy
        have r := k9.2.2.2.2.1 x y hx' hy' hxy lt
        have w : x ≠ l := fun w => by
          have L := lz (by omega)
          rw [w] at r
          exact r.1 L.2.2
        rw [t87 _ cx.1 cx.2 w]
        exact r
    · by_cases e : x = 130 * S + m
      · rw [e, u85, u86]
        exact ⟨Or.inl rfl, Or.inl rfl⟩
      · have hx' : CJ t S x := by unfold CJ at *; rw [t73] at hx; omega
        have cx := cin _ hx'
        rw [t85 _ cx.1 cx.2, t86 _ cx.1 cx.2, t77 _ cx.1 cx.2]
        exact k9.2.2.2.2.2.1 x hx'
    · have k10 := k9.2.2.2.2.2.2.2
      have old : ∀ x, CJ t' S x → ¬ x = 130 * S + m → CJ t S x := fun x z y => by unfold CJ at *; rw [t73] at z; omega
      have c80 : ∀ x, CJ t S x → 0 ≤ gI t 88 x := fun x z => by
        have q3 := (k3 (x - 130 * S) (by have := z.1; omega) (by have := z.2; omega)).2.2.1
        rw [show 130 * S + (x - 130 * S) = x by omega] at q3
        have := q3.1
        omega
      have d5 : ∀ o, CJ t S o → gI t 85 o ≠ b ∧ gI t 86 o ≠ b := fun o z => by
        have q := k7d.1 (o - 130 * S) (by have := z.1; omega) (by have := z.2; omega)
        rw [show 130 * S + (o - 130 * S) = o by omega] at q
        exact q
      refine ⟨fun x y hx hy x6 y6 lt => ?_, fun o x y ho hx hy e1 e2 => ?_, fun e h0 h1 ho x y hx hy e1 e2 => ?_⟩
      · have hx' := old x hx (by have := hy.2; rw [t73] at this; omega)
        have cx := cin _ hx'
        rw [t77 _ cx.1 cx.2] at x6
        rw [t78 _ cx.1 cx.2]
        by_cases e : y = 130 * S + m
        · rw [e] at y6 ⊢
          rcases alt with z | z
          · exact absurd z.2.2.2.1 y6
          · rw [z.2.2.2.2.1]
            have q := (k3 (x - 130 * S) (by have := hx'.1; omega) (by have := hx'.2; omega)).2.1
            unfold K3a at q
            rw [show 130 * S + (x - 130 * S) = x by omega] at q
            rcases q with q | q
            · exact absurd q.2 x6
            · have := q.2.1
              omega
        · have hy' := old y hy e
          have cy := cin _ hy'
          rw [t77 _ cy.1 cy.2] at y6
          rw [t78 _ cy.1 cy.2]
          exact k10.1 x y hx' hy' x6 y6 lt
      · by_cases eo : o = 130 * S + m
        · exfalso
          rw [eo, u85] at e1
          by_cases ex : x = 130 * S + m
          · rw [ex, u88] at e1
            omega
          · have hx' := old x hx ex
            rw [t88 _ (cin _ hx').1 (cin _ hx').2] at e1
            have := c80 x hx'
            omega
        · have ho' := old o ho eo
          have co := cin _ ho'
          rw [t85 _ co.1 co.2] at e1
          rw [t86 _ co.1 co.2] at e2
          by_cases ex : x = 130 * S + m
          · rw [ex, u88] at e1
            exact absurd e1 (d5 o ho').1
          · have hx' := old x hx ex
            rw [t88 _ (cin _ hx').1 (cin _ hx').2] at e1
            by_cases ey : y = 130 * S + m
            · rw [ey, u88] at e2
              exact absurd e2 (d5 o ho').2
            · have hy' := old y hy ey
              rw [t88 _ (cin _ hy').1 (cin _ hy').2] at e2
              exact k10.2.1 o x y ho' hx' hy' e1 e2
      · rw [t92] at e1 ho
        have ho' : CJ t S (gI t 92 (B e)) := by
          rcases (k6 e h0 h1).2.1 with w | w
          · rw [w] at ho
            have := ho.1
            omega
          · exact w
        have co := cin _ ho'
        rw [t85 _ co.1 co.2] at e1
        by_cases ex : x = 130 * S + m
        · rw [ex, u88] at e1
          exact absurd e1 (d5 _ ho').1
        · have hx' := old x hx ex
          rw [t88 _ (cin _ hx').1 (cin _ hx').2] at e1
          by_cases ey : y = 130 * S + m
          · have := hx'.2
            omega
          · have hy' := old y hy ey
            rw [t88 _ (cin _ hy').1 (cin _ hy').2] at e2
            exact k10.2.2 e h0 h1 ho' x y hx' hy' e1 e2

