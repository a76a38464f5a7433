def sh0 : List (Nat × Nat) := [(7, 8), (9, 500), (0, 20), (10, 5), (10, 40), (10, 40), (10, 40), (10, 40), (10, 40), (10, 40), (10, 40), (10, 40), (10, 40), (10, 40), (10, 40), (10, 40), (10, 40), (10, 40), (0, 20), (10, 5), (10, 40), (10, 40), (10, 40), (10, 40), (10, 40), (10, 40), (10, 40), (10, 40), (10, 40), (10, 40), (10, 40), (10, 40), (10, 40), (10, 40), (3, 11), (9, 0), (5, 9), (10, 128), (10, 128), (10, 128), (10, 128), (10, 128), (10, 128), (10, 128), (10, 5), (10, 7), (10, 7), (12, 7), (6, 2), (4, 13), (11, 5), (10, 30), (11, 13), (11, 13), (10, 585), (11, 40), (11, 40), (1, 7), (11, 7605), (11, 40), (11, 40), (11, 5), (11, 45), (11, 45), (2, 13), (10, 4), (10, 186), (10, 31), (10, 500), (10, 500), (8, 60), (9, 500), (9, 500), (10, 2), (10, 2), (10, 2), (10, 2), (10, 260), (10, 260), (10, 260), (10, 260), (10, 260), (10, 260), (10, 260), (10, 260), (10, 260), (10, 260), (10, 260), (10, 260), (10, 520), (10, 560), (10, 560), (10, 560), (10, 80), (10, 10), (10, 80), (10, 80), (10, 80), (10, 80), (10, 80), (10, 10), (12, 10), (12, 10), (10, 11115), (11, 40), (11, 40), (11, 40), (11, 5), (10, 30), (10, 19), (10, 585), (11, 40), (10, 19), (10, 4), (10, 192), (10, 500), (10, 500)]
/-- the range of each int, by cell and slot -/
def rg (c j : Nat) : Int × Int := match c with
  | 0 => (match j with
    | 1 => (0, 500)
    | _ => (-2147483648, 2147483647))
  | 1 => (-128, 127)
  | 2 => (match j with
    | 0 => (0, 40)
    | 1 => (0, 5)
    | _ => (-2147483648, 2147483647))
  | 3 => (0, 44)
  | 4 => (0, 5)
  | 5 => (-1, 4)
  | 8 => (-1, 9)
  | 9 => (-2, 4)
  | 13 => (0, 44)
  | 14 => (0, 44)
  | 15 => (0, 44)
  | 16 => (-1, 5)
  | 17 => (-2, 44)
  | 18 => (match j with
    | 0 => (0, 40)
    | 1 => (0, 5)
    | _ => (-2147483648, 2147483647))
  | 19 => (0, 44)
  | 20 => (0, 5)
  | 21 => (-1, 4)
  | 24 => (-1, 9)
  | 25 => (-2, 4)
  | 29 => (0, 44)
  | 30 => (0, 44)
  | 31 => (0, 44)
  | 32 => (-1, 5)
  | 33 => (-2, 44)
  | 34 => (match j with
    | 1 => (0, 500)
    | 2 => (0, 500)
    | 7 => (0, 7)
    | _ => (-2147483648, 2147483647))
  | 35 => (-128, 127)
  | 36 => (match j with
    | 0 => (0, 128)
    | _ => (-2147483648, 2147483647))
  | 37 => (-1, 39)
  | 38 => (-1, 127)
  | 39 => (-1, 127)
  | 40 => (-1, 127)
  | 41 => (-1, 5)
  | 42 => (0, 44)
  | 43 => (-2, 44)
  | 44 => (-1, 127)
  | 45 => (-1, 127)
  | 46 => (-1, 127)
  | 47 => (0, 1)
  | 49 => (match j with
    | 2 => (0, 1)
    | 8 => (0, 585)
    | _ => (-2147483648, 2147483647))
  | 54 => (0, 584)
  | 64 => (match j with
    | 3 => (0, 30)
    | 4 => (0, 44)
    | 5 => (0, 3000)
    | 6 => (-1, 3)
    | 10 => (0, 500)
    | _ => (-2147483648, 2147483647))
  | 67 => (0, 39)
  | 70 => (match j with
    | 2 => (0, 500)
    | 3 => (0, 500)
    | 4 => (0, 500)
    | 6 => (0, 1)
    | 29 => (0, 1)
    | 30 => (0, 1)
    | 47 => (0, 585)
    | 50 => (0, 1)
    | 53 => (0, 3000)
    | 54 => (0, 500)
    | _ => (-2147483648, 2147483647))
  | 71 => (-128, 127)
  | 72 => (-128, 127)
  | 73 => (0, 130)
  | 74 => (0, 280)
  | 75 => (0, 40)
  | 76 => (0, 5)
  | 77 => (0, 6)
  | 78 => (-1, 39)
  | 79 => (0, 4)
  | 80 => (0, 6)
  | 82 => (-1, 9)
  | 84 => (-2, 4)
  | 85 => (-1, 559)
  | 86 => (-1, 559)
  | 87 => (-1, 259)
  | 88 => (0, 559)
  | 89 => (0, 9999)
  | 90 => (-1, 259)
  | 91 => (-1, 259)
  | 92 => (-1, 259)
  | 93 => (0, 259)
  | 94 => (0, 559)
  | 95 => (-1, 39)
  | 96 => (-2, 39)
  | 97 => (-1, 39)
  | 98 => (-1, 39)
  | 99 => (-1, 5)
  | 100 => (-1, 39)
  | 101 => (0, 1)
  | 102 => (0, 1)
  | 110 => (0, 584)
  | _ => (-2147483648, 2147483647)
def rfs : List (Nat × Nat × Nat) := [(0, 0, 1), (0, 5, 34), (0, 6, 49), (0, 7, 64), (2, 5, 3), (2, 6, 4), (2, 7, 5), (2, 8, 6), (2, 9, 7), (2, 10, 8), (2, 11, 9), (2, 12, 10), (2, 13, 11), (2, 14, 12), (2, 15, 13), (2, 16, 14), (2, 17, 15), (2, 18, 16), (2, 19, 17), (18, 5, 19), (18, 6, 20), (18, 7, 21), (18, 8, 22), (18, 9, 23), (18, 10, 24), (18, 11, 25), (18, 12, 26), (18, 13, 27), (18, 14, 28), (18, 15, 29), (18, 16, 30), (18, 17, 31), (18, 18, 32), (18, 19, 33), (34, 5, 36), (34, 6, 48), (34, 8, 45), (34, 9, 46), (34, 10, 47), (36, 1, 37), (36, 2, 38), (36, 3, 39), (36, 4, 40), (36, 5, 41), (36, 6, 42), (36, 7, 43), (36, 8, 44), (48, 0, 36), (49, 0, 57), (49, 3, 50), (49, 4, 51), (49, 5, 52), (49, 6, 53), (49, 7, 54), (49, 9, 55), (49, 11, 56), (57, 0, 58), (57, 1, 59), (57, 2, 60), (57, 3, 61), (57, 4, 62), (57, 5, 63), (64, 0, 65), (64, 1, 66), (64, 2, 67), (64, 8, 68), (64, 9, 69), (70, 0, 71), (70, 1, 72), (70, 7, 73), (70, 8, 74), (70, 9, 75), (70, 10, 76), (70, 11, 77), (70, 12, 78), (70, 13, 79), (70, 14, 80), (70, 15, 81), (70, 16, 82), (70, 17, 83), (70, 18, 84), (70, 19, 85), (70, 20, 86), (70, 21, 87), (70, 22, 88), (70, 23, 89), (70, 24, 90), (70, 25, 91), (70, 26, 92), (70, 27, 93), (70, 28, 94), (70, 31, 95), (70, 32, 96), (70, 33, 97), (70, 34, 98), (70, 35, 99), (70, 36, 100), (70, 37, 101), (70, 38, 102), (70, 39, 103), (70, 40, 104), (70, 41, 105), (70, 42, 106), (70, 43, 107), (70, 44, 108), (70, 45, 109), (70, 46, 110), (70, 48, 111), (70, 49, 112), (70, 56, 113), (70, 57, 114), (70, 58, 115), (70, 59, 116)]
def rcs : List (Nat × Nat) := [(0, 3), (0, 4), (34, 4), (48, 1), (49, 1), (57, 6), (64, 11)]
/-- what stays, or is followed: how much is taped in the class and in the reference; kinds and callees of both codes; the code -/
abbrev PP : Type := Int32 × Int32 × (Nat → Nat → Int32) × Nat × (Nat → Nat → Int32)
/-- what the reference's reader and program alone write -/
def fzn (c j : Nat) : Prop := (73 ≤ c ∧ c ≤ 102) ∨ (c = 70 ∧ (j = 6 ∨ j = 29 ∨ j = 30))
/-- the invariant: shapes, ranges, references -/
def Iv (P : PP) (h : HP) : Prop :=
  h.1 = sh0 ∧ (∀ c j, (rg c j).1 ≤ (h.2.1 c j).toInt ∧ (h.2.1 c j).toInt ≤ (rg c j).2) ∧ (∀ e ∈ rfs, h.2.2.2 e.1 e.2.1 = .ref e.2.2) ∧ (∀ e ∈ rcs, h.2.2.2 e.1 e.2 = .ref 2 ∨ h.2.2.2 e.1 e.2 = .ref 18) ∧ (1 ≤ (h.2.1 34 1).toInt → h.2.2.2 34 0 = .ref 1) ∧ (∀ c, c = 2 ∨ c = 18 → ∀ j, (h.2.1 (c + 2) j).toInt = 1 → 0 ≤ (h.2.1 (c + 7) j).toInt) ∧ h.2.1 0 1 = P.1 ∧ h.2.1 70 2 = P.2.1 ∧ (∀ c, c = 4 ∨ c = 9 ∨ c = 20 ∨ c = 25 → ∀ j, h.2.1 c j = P.2.2.1 c j) ∧ h.2.2.2 0 3 = .ref P.2.2.2.1 ∧ (∀ c j, fzn c j → h.2.1 c j = P.2.2.2.2 c j)
theorem Iv.sh {P : PP} {h : HP} {c : Nat} {s : Nat × Nat} (hi : Iv P h) (e : sh0[c]? = some s) : h.1[c]? = some s := by rw [hi.1]; exact e
theorem Iv.ln {P : PP} {h : HP} (hi : Iv P h) : h.1.length = 117 := by rw [hi.1]; rfl
theorem Iv.rf {P : PP} {h : HP} {c j k : Nat} (hi : Iv P h) (e : (c, j, k) ∈ rfs) : h.2.2.2 c j = .ref k := hi.2.2.1 _ e
theorem Iv.rc {P : PP} {h : HP} {c j : Nat} (hi : Iv P h) (e : (c, j) ∈ rcs) : ∃ k, (k = 2 ∨ k = 18) ∧ h.2.2.2 c j = .ref k := by
  rcases hi.2.2.2.1 _ e with q | q
  · exact ⟨2, Or.inl rfl, q⟩
  · exact ⟨18, Or.inr rfl, q⟩
theorem Iv.put {P : PP} {h : HP} {c j : Nat} {x : Int32} {a : Int} (hi : Iv P h) (ex : TI x a) (h1 : (rg c j).1 ≤ a) (h2 : a ≤ (rg c j).2) (hc : c ≠ 0 ∨ j ≠ 1) (hc2 : c ≠ 70 ∨ (j ≠ 2 ∧ j ≠ 6 ∧ j ≠ 29 ∧ j ≠ 30)) (hc3 : c ≠ 34 ∨ j ≠ 1) (hk : c ≠ 4 ∧ c ≠ 9 ∧ c ≠ 20 ∧ c ≠ 25 ∧ (c < 73 ∨ 102 < c)) : Iv P (hI h c j x) := by
  obtain ⟨q1, q2, q3, q4, q5, q6, q7, q8, q9, q10, q12⟩ := hi
  refine ⟨q1, fun c' j' => ?_, q3, q4, ?_, fun c' hc' j' => ?_, ?_, ?_, fun c' hc' j' => ?_, q10, fun c' j' hc' => ?_⟩
  · show (rg c' j').1 ≤ (if c' = c ∧ j' = j then x else h.2.1 c' j').toInt ∧ _
    show _ ∧ (if c' = c ∧ j' = j then x else h.2.1 c' j').toInt ≤ _
    by_cases e : c' = c ∧ j' = j
    · rw [if_pos e, e.1, e.2, show x.toInt = a from ex]; exact ⟨h1, h2⟩
    · rw [if_neg e]; exact q2 c' j'
  · show 1 ≤ (if 34 = c ∧ 1 = j then x else h.2.1 34 1).toInt → _
    rw [if_neg (by omega)]; exact q5
  · show (if c' + 2 = c ∧ j' = j then x else h.2.1 (c' + 2) j').toInt = 1 → 0 ≤ (if c' + 7 = c ∧ j' = j then x else h.2.1 (c' + 7) j').toInt
    rw [if_neg (by omega), if_neg (by omega)]
    exact q6 c' hc' j'
  · show (if 0 = c ∧ 1 = j then x else h.2.1 0 1) = _
    rw [if_neg (by omega)]; exact q7
  · show (if 70 = c ∧ 2 = j then x else h.2.1 70 2) = _
    rw [if_neg (by omega)]; exact q8
  · show (if c' = c ∧ j' = j then x else h.2.1 c' j') = _
    rw [if_neg (by omega)]; exact q9 c' hc' j'
  · show (if c' = c ∧ j' = j then x else h.2.1 c' j') = _
    rw [if_neg (by unfold fzn at hc'; omega)]
    exact q12 c' j' hc'
theorem Iv.tx {P : PP} {h : HP} (hi : Iv P h) (e : 1 ≤ (h.2.1 34 1).toInt) : h.2.2.2 34 0 = .ref 1 := hi.2.2.2.2.1 e
theorem Iv.xc {P : PP} {h : HP} (hi : Iv P h) : h.2.2.2 0 3 = .ref P.2.2.2.1 := hi.2.2.2.2.2.2.2.2.2.1
theorem Iv.sum {P : PP} {h g : HP} (hi : Iv P h) (hg : Iv P g) {c1 c2 j : Nat} (f1 : h.2.2.2 0 3 = .ref c1) (f2 : g.2.2.2 0 3 = .ref c2) (h2 : c2 = 2 ∨ c2 = 18) (e : (h.2.1 (c1 + 2) j).toInt = 1) : 0 ≤ (g.2.1 (c2 + 7) j).toInt := by
  have e1 := f1.symm.trans hi.xc
  have e2 := f2.symm.trans hg.xc
  cases e1
  cases e2
  refine hg.2.2.2.2.2.1 _ h2 j ?_
  have h9 := hi.2.2.2.2.2.2.2.2.1 (P.2.2.2.1 + 2) (by omega) j
  have g9 := hg.2.2.2.2.2.2.2.2.1 (P.2.2.2.1 + 2) (by omega) j
  rw [g9, ← h9]
  exact e
theorem Iv.t0 {P : PP} {h : HP} (hi : Iv P h) : h.2.1 0 1 = P.1 := hi.2.2.2.2.2.2.1
theorem Iv.t1 {P : PP} {h : HP} (hi : Iv P h) : h.2.1 70 2 = P.2.1 := hi.2.2.2.2.2.2.2.1
theorem Iv.put0 {P : PP} {h : HP} {x : Int32} {a : Int} (hi : Iv P h) (ex : TI x a) (h1 : 0 ≤ a) (h2 : a ≤ 500) : Iv (x, P.2.1, P.2.2.1, P.2.2.2) (hI h 0 1 x) := by
  obtain ⟨q1, q2, q3, q4, q5, q6, q7, q8, q9, q10, q12⟩ := hi
  refine ⟨q1, fun c' j' => ?_, q3, q4, ?_, fun c' hc' j' => ?_, ?_, ?_, fun c' hc' j' => ?_, q10, fun c' j' hc' => ?_⟩
  · show (rg c' j').1 ≤ (if c' = 0 ∧ j' = 1 then x else h.2.1 c' j').toInt ∧ _
    show _ ∧ (if c' = 0 ∧ j' = 1 then x else h.2.1 c' j').toInt ≤ _
    by_cases e : c' = 0 ∧ j' = 1
    · rw [if_pos e, e.1, e.2, show x.toInt = a from ex]; exact ⟨h1, h2⟩
    · rw [if_neg e]; exact q2 c' j'
  · show 1 ≤ (if 34 = 0 ∧ 1 = 1 then x else h.2.1 34 1).toInt → _
    rw [if_neg (by omega)]; exact q5
  · show (if c' + 2 = 0 ∧ j' = 1 then x else h.2.1 (c' + 2) j').toInt = 1 → 0 ≤ (if c' + 7 = 0 ∧ j' = 1 then x else h.2.1 (c' + 7) j').toInt
    rw [if_neg (by omega), if_neg (by omega)]
    exact q6 c' hc' j'
  · show (if 0 = 0 ∧ 1 = 1 then x else h.2.1 0 1) = x
    rw [if_pos ⟨rfl, rfl⟩]
  · show (if 70 = 0 ∧ 2 = 1 then x else h.2.1 70 2) = _
    rw [if_neg (by omega)]; exact q8
  · show (if c' = 0 ∧ j' = 1 then x else h.2.1 c' j') = _
    rw [if_neg (by omega)]; exact q9 c' hc' j'
  · show (if c' = 0 ∧ j' = 1 then x else h.2.1 c' j') = _
    rw [if_neg (by unfold fzn at hc'; omega)]
    exact q12 c' j' hc'
theorem Iv.put1 {P : PP} {h : HP} {x : Int32} {a : Int} (hi : Iv P h) (ex : TI x a) (h1 : 0 ≤ a) (h2 : a ≤ 500) : Iv (P.1, x, P.2.2.1, P.2.2.2) (hI h 70 2 x) := by
  obtain ⟨q1, q2, q3, q4, q5, q6, q7, q8, q9, q10, q12⟩ := hi
  refine ⟨q1, fun c' j' => ?_, q3, q4, ?_, fun c' hc' j' => ?_, ?_, ?_, fun c' hc' j' => ?_, q10, fun c' j' hc' => ?_⟩
  · show (rg c' j').1 ≤ (if c' = 70 ∧ j' = 2 then x else h.2.1 c' j').toInt ∧ _
    show _ ∧ (if c' = 70 ∧ j' = 2 then x else h.2.1 c' j').toInt ≤ _
    by_cases e : c' = 70 ∧ j' = 2
    · rw [if_pos e, e.1, e.2, show x.toInt = a from ex]; exact ⟨h1, h2⟩
    · rw [if_neg e]; exact q2 c' j'
  · show 1 ≤ (if 34 = 70 ∧ 1 = 2 then x else h.2.1 34 1).toInt → _
    rw [if_neg (by omega)]; exact q5
  · show (if c' + 2 = 70 ∧ j' = 2 then x else h.2.1 (c' + 2) j').toInt = 1 → 0 ≤ (if c' + 7 = 70 ∧ j' = 2 then x else h.2.1 (c' + 7) j').toInt
    rw [if_neg (by omega), if_neg (by omega)]
    exact q6 c' hc' j'
  · show (if 0 = 70 ∧ 1 = 2 then x else h.2.1 0 1) = _
    rw [if_neg (by omega)]; exact q7
  · show (if 70 = 70 ∧ 2 = 2 then x else h.2.1 70 2) = x
    rw [if_pos ⟨rfl, rfl⟩]
  · show (if c' = 70 ∧ j' = 2 then x else h.2.1 c' j') = _
    rw [if_neg (by omega)]; exact q9 c' hc' j'
  · show (if c' = 70 ∧ j' = 2 then x else h.2.1 c' j') = _
    rw [if_neg (by unfold fzn at hc'; omega)]
    exact q12 c' j' hc'
theorem nar_b (x : Int32) : -128 ≤ (vp_nar .byte x).toInt ∧ (vp_nar .byte x).toInt ≤ 127 := by
  have e : vp_nar .byte x = x.toInt8.toInt32 := rfl
  rw [e, Int8.toInt_toInt32]
  have h1 := Int8.le_toInt x.toInt8
  have h2 := Int8.toInt_lt x.toInt8
  omega
theorem Iv.putL {P : PP} {h : HP} {c j : Nat} {x : Int64} (hi : Iv P h) : Iv P (hL h c j x) := hi
theorem Iv.putC {P : PP} {h : HP} {c j k : Nat} (hi : Iv P h) (e : (c, j) ∈ rcs) (hk : k = 2 ∨ k = 18) (hf : ∀ q ∈ rfs, ¬ (q.1 = c ∧ q.2.1 = j)) (ht : ¬ (34 = c ∧ 0 = j)) (hx : ¬ (0 = c ∧ 3 = j)) : Iv P (hR h c j (.ref k)) := by
  obtain ⟨q1, q2, q3, q4, q5, q6, q7, q8, q9, q10, q12⟩ := hi
  refine ⟨q1, q2, fun q hq => ?_, fun q hq => ?_, ?_, q6, q7, q8, q9, ?_, q12⟩
  · show (if q.1 = c ∧ q.2.1 = j then _ else h.2.2.2 q.1 q.2.1) = _
    rw [if_neg (hf q hq)]; exact q3 q hq
  · show (if q.1 = c ∧ q.2 = j then Value.ref k else h.2.2.2 q.1 q.2) = _ ∨ (if q.1 = c ∧ q.2 = j then Value.ref k else h.2.2.2 q.1 q.2) = _
    by_cases e2 : q.1 = c ∧ q.2 = j
    · rw [if_pos e2]; rcases hk with rfl | rfl
      · exact Or.inl rfl
      · exact Or.inr rfl
    · rw [if_neg e2]; exact q4 q hq
  · show 1 ≤ (h.2.1 34 1).toInt → (if 34 = c ∧ 0 = j then Value.ref k else h.2.2.2 34 0) = _
    rw [if_neg ht]; exact q5
  · show (if 0 = c ∧ 3 = j then Value.ref k else h.2.2.2 0 3) = _
    rw [if_neg hx]; exact q10
/-- the side at hand becomes the live one -/
def gs (P : PP) : PP := (P.1, P.2.1, P.2.2.1, P.2.2.2.1, fun c j => if c = 70 ∧ j = 6 then P.2.2.2.2 70 29 else P.2.2.2.2 c j)
def SQ (P Q : PP) : Prop := Q = P ∨ Q = gs P
theorem gs_gs (P : PP) : gs (gs P) = gs P := by
  show (P.1, P.2.1, P.2.2.1, P.2.2.2.1, fun c j => if c = 70 ∧ j = 6 then (if 70 = 70 ∧ 29 = 6 then P.2.2.2.2 70 29 else P.2.2.2.2 70 29) else (if c = 70 ∧ j = 6 then P.2.2.2.2 70 29 else P.2.2.2.2 c j)) = (P.1, P.2.1, P.2.2.1, P.2.2.2.1, fun c j => if c = 70 ∧ j = 6 then P.2.2.2.2 70 29 else P.2.2.2.2 c j)
  have e : (fun (c j : Nat) => if c = 70 ∧ j = 6 then (if 70 = 70 ∧ 29 = 6 then P.2.2.2.2 70 29 else P.2.2.2.2 70 29) else (if c = 70 ∧ j = 6 then P.2.2.2.2 70 29 else P.2.2.2.2 c j)) = (fun c j => if c = 70 ∧ j = 6 then P.2.2.2.2 70 29 else P.2.2.2.2 c j) := by
    funext c j
    by_cases q : c = 70 ∧ j = 6
    · rw [if_pos q, if_pos q]; split <;> rfl
    · rw [if_neg q, if_neg q]
  rw [e]
theorem SQ.rfl (P : PP) : SQ P P := Or.inl _root_.rfl
theorem SQ.ofgs (P : PP) : SQ P (gs P) := Or.inr _root_.rfl
theorem SQ.trans {P Q R : PP} (h : SQ P Q) (g : SQ Q R) : SQ P R := by
  rcases h with rfl | rfl
  · exact g
  · rcases g with rfl | rfl
    · exact Or.inr _root_.rfl
    · rw [gs_gs]; exact Or.inr _root_.rfl
theorem Iv.fz {P : PP} {h : HP} {c j : Nat} (hi : Iv P h) (e1 : 73 ≤ c) (e2 : c ≤ 102) : h.2.1 c j = P.2.2.2.2 c j := hi.2.2.2.2.2.2.2.2.2.2 c j (Or.inl ⟨e1, e2⟩)
theorem Iv.fy {P : PP} {h : HP} {j : Nat} (hi : Iv P h) (e : j = 6 ∨ j = 29 ∨ j = 30) : h.2.1 70 j = P.2.2.2.2 70 j := hi.2.2.2.2.2.2.2.2.2.2 70 j (Or.inr ⟨_root_.rfl, e⟩)
/-- a call has a callee (the reference) -/
def CK (P : PP) : Prop := ∀ j, (P.2.2.2.2 77 j).toInt = 1 → 0 ≤ (P.2.2.2.2 84 j).toInt
theorem CK.gs {P : PP} (h : CK P) : CK (gs P) := by
  intro j
  show (if 77 = 70 ∧ j = 6 then P.2.2.2.2 70 29 else P.2.2.2.2 77 j).toInt = 1 → 0 ≤ (if 84 = 70 ∧ j = 6 then P.2.2.2.2 70 29 else P.2.2.2.2 84 j).toInt
  rw [if_neg (by omega), if_neg (by omega)]
  exact h j
theorem Iv.mc {P : PP} {h : HP} {j : Nat} (hi : Iv P h) (ck : CK P) (e : (h.2.1 77 j).toInt = 1) : 0 ≤ (h.2.1 84 j).toInt := by
  rw [hi.fz (by omega) (by omega)] at e ⊢
  exact ck j e
theorem Iv.putS {P : PP} {h : HP} {x : Int32} (hi : Iv P h) (ex : x = h.2.1 70 29) : Iv (gs P) (hI h 70 6 x) := by
  have hl := hi.fy (j := 29) (by decide)
  have hr := hi.2.1 70 29
  rw [← ex] at hl hr
  have hr2 : 0 ≤ x.toInt ∧ x.toInt ≤ 1 := hr
  obtain ⟨q1, q2, q3, q4, q5, q6, q7, q8, q9, q10, q12⟩ := hi
  refine ⟨q1, fun c' j' => ?_, q3, q4, q5, fun c' hc' j' => ?_, q7, q8, fun c' hc' j' => ?_, q10, fun c' j' hc' => ?_⟩
  · show (rg c' j').1 ≤ (if c' = 70 ∧ j' = 6 then x else h.2.1 c' j').toInt ∧ (if c' = 70 ∧ j' = 6 then x else h.2.1 c' j').toInt ≤ (rg c' j').2
    by_cases e : c' = 70 ∧ j' = 6
    · rw [if_pos e, e.1, e.2]; exact hr2
    · rw [if_neg e]; exact q2 c' j'
  · show (if c' + 2 = 70 ∧ j' = 6 then x else h.2.1 (c' + 2) j').toInt = 1 → 0 ≤ (if c' + 7 = 70 ∧ j' = 6 then x else h.2.1 (c' + 7) j').toInt
    rw [if_neg (by omega), if_neg (by omega)]
    exact q6 c' hc' j'
  · show (if c' = 70 ∧ j' = 6 then x else h.2.1 c' j') = _
    rw [if_neg (by omega)]; exact q9 c' hc' j'
  · show (if c' = 70 ∧ j' = 6 then x else h.2.1 c' j') = (if c' = 70 ∧ j' = 6 then P.2.2.2.2 70 29 else P.2.2.2.2 c' j')
    by_cases e : c' = 70 ∧ j' = 6
    · rw [if_pos e, if_pos e]; exact hl
    · rw [if_neg e, if_neg e]; exact q12 c' j' hc'

/-- the item of a statement of the side at hand, its kind (the reference) -/
def g_it (h : HP) (s : Int) : Int := (h.2.1 93 (40 * (h.2.1 70 6).toInt + s).toNat).toInt
def g_kd (h : HP) (s : Int) : Int := (h.2.1 77 (g_it h s).toNat).toInt
section GI
variable {l : Launch} {own : String} {cc : ByteArray} {nL : Nat} {R : Room} {nm : String} {rt : Option FieldType} {n0 mc ms : Nat} {Xf : Nat → State → Prop} {Qf : Option Value → HP → Prop} {sl pc : Nat} {lv : List (Nat × Value)} {st : List Value} {h : HP} {P : PP}
theorem gi_get {c ci len i idx : Nat} {lo hi : Int} (hv : Iv P h) (hf : FL own idx ci i) (hc : sh0[c]? = some (ci, len)) (hi2 : i < len) (hty : g_kind (g_ty ci i) = 0) (hr : rg c i = (lo, hi)) (hd : decode cc pc = .ok (.getfield idx, 3)) (k : ∀ v : Int32, lo ≤ v.toInt → v.toInt ≤ hi → v = h.2.1 c i → Go l own cc nL R nm rt n0 mc ms Xf Qf sl (pc + 3) lv (.int v :: st) h) : Go l own cc nL R nm rt n0 mc ms Xf Qf sl pc lv (.ref c :: st) h :=
  go_getI hf (hv.sh hc) hi2 hty hd (k _ (by have := (hv.2.1 c i).1; rw [hr] at this; exact this) (by have := (hv.2.1 c i).2; rw [hr] at this; exact this) rfl)
theorem gi_put {c ci len i idx : Nat} {x : Int32} {a lo hi : Int} (hv : Iv P h) (ex : TI x a) (hf : FP own nm idx ci i) (hc : sh0[c]? = some (ci, len)) (hi2 : i < len) (hty : g_kind (g_ty ci i) = 0) (hr : rg c i = (lo, hi)) (h1 : lo ≤ a) (h2 : a ≤ hi) (hna : narrow (g_ty ci i) (.int x) = .int x) (hfi : fits (g_ty ci i) (.int x) = true) (hc1 : c ≠ 0 ∨ i ≠ 1) (hc2 : c ≠ 70 ∨ (i ≠ 2 ∧ i ≠ 6 ∧ i ≠ 29 ∧ i ≠ 30)) (hc3 : c ≠ 34 ∨ i ≠ 1) (hk : c ≠ 4 ∧ c ≠ 9 ∧ c ≠ 20 ∧ c ≠ 25 ∧ (c < 73 ∨ 102 < c)) (hd : decode cc pc = .ok (.putfield idx, 3)) (k : ∀ h' : HP, Iv P h' → h' = hI h c i x → Go l own cc nL R nm rt n0 mc ms Xf Qf sl (pc + 3) lv st h') : Go l own cc nL R nm rt n0 mc ms Xf Qf sl pc lv (.int x :: .ref c :: st) h :=
  go_putI hf (hv.sh hc) hi2 hty (fun _ => hna) (fun _ => hfi) hd (k _ (hv.put ex (by rw [hr]; exact h1) (by rw [hr]; exact h2) hc1 hc2 hc3 hk) rfl)
theorem gi_getL {c ci len i idx : Nat} (hv : Iv P h) (hf : FL own idx ci i) (hc : sh0[c]? = some (ci, len)) (hi2 : i < len) (hty : g_kind (g_ty ci i) = 1) (hd : decode cc pc = .ok (.getfield idx, 3)) (k : ∀ v : Int64, Go l own cc nL R nm rt n0 mc ms Xf Qf sl (pc + 3) lv (.long v :: st) h) : Go l own cc nL R nm rt n0 mc ms Xf Qf sl pc lv (.ref c :: st) h :=
  go_getL hf (hv.sh hc) hi2 hty hd (k _)
theorem gi_putL {c ci len i idx : Nat} {x : Int64} (hv : Iv P h) (hf : FP own nm idx ci i) (hc : sh0[c]? = some (ci, len)) (hi2 : i < len) (hty : g_kind (g_ty ci i) = 1) (hna : narrow (g_ty ci i) (.long x) = .long x) (hfi : fits (g_ty ci i) (.long x) = true) (hd : decode cc pc = .ok (.putfield idx, 3)) (k : ∀ h' : HP, Iv P h' → h' = hL h c i x → Go l own cc nL R nm rt n0 mc ms Xf Qf sl (pc + 3) lv st h') : Go l own cc nL R nm rt n0 mc ms Xf Qf sl pc lv (.long x :: .ref c :: st) h :=
  go_putL hf (hv.sh hc) hi2 hty (fun _ => hna) (fun _ => hfi) hd (k _ hv.putL rfl)
theorem gi_getF {c ci len i idx q : Nat} (hv : Iv P h) (hf : FL own idx ci i) (hc : sh0[c]? = some (ci, len)) (hi2 : i < len) (hty : g_kind (g_ty ci i) = 2) (hq : h.2.2.2 c i = .ref q) (hd : decode cc pc = .ok (.getfield idx, 3)) (k : Go l own cc nL R nm rt n0 mc ms Xf Qf sl (pc + 3) lv (.ref q :: st) h) : Go l own cc nL R nm rt n0 mc ms Xf Qf sl pc lv (.ref c :: st) h :=
  go_getR hf (hv.sh hc) hi2 hty hq hd k
theorem gi_getC {c ci len i idx : Nat} (hv : Iv P h) (hf : FL own idx ci i) (hc : sh0[c]? = some (ci, len)) (hi2 : i < len) (hty : g_kind (g_ty ci i) = 2) (hq : (c, i) ∈ rcs) (hd : decode cc pc = .ok (.getfield idx, 3)) (k : ∀ q : Nat, q = 2 ∨ q = 18 → h.2.2.2 c i = .ref q → Go l own cc nL R nm rt n0 mc ms Xf Qf sl (pc + 3) lv (.ref q :: st) h) : Go l own cc nL R nm rt n0 mc ms Xf Qf sl pc lv (.ref c :: st) h := by
  obtain ⟨q, h1, h2⟩ := hv.rc hq
  exact go_getR hf (hv.sh hc) hi2 hty h2 hd (k q h1 h2)
theorem gi_putC {c ci len i idx q : Nat} (hv : Iv P h) (hq : q = 2 ∨ q = 18) (hf : FP own nm idx ci i) (hc : sh0[c]? = some (ci, len)) (hi2 : i < len) (hty : g_kind (g_ty ci i) = 2) (hna : ∀ zb, narrow (g_ty ci i) (gv zb (.ref q)) = gv zb (.ref q)) (hfi : ∀ zb, fits (g_ty ci i) (gv zb (.ref q)) = true) (he : (c, i) ∈ rcs) (hff : ∀ q ∈ rfs, ¬ (q.1 = c ∧ q.2.1 = i)) (ht : ¬ (34 = c ∧ 0 = i)) (hx : ¬ (0 = c ∧ 3 = i)) (hd : decode cc pc = .ok (.putfield idx, 3)) (k : ∀ h' : HP, Iv P h' → h' = hR h c i (.ref q) → Go l own cc nL R nm rt n0 mc ms Xf Qf sl (pc + 3) lv st h') : Go l own cc nL R nm rt n0 mc ms Xf Qf sl pc lv (.ref q :: .ref c :: st) h :=
  go_putR hf (hv.sh hc) hi2 hty hna hfi hd (k _ (hv.putC he hq hff ht hx) rfl)
theorem gi_iald {c len : Nat} {i : Int32} {a lo hi : Int} (hv : Iv P h) (ei : TI i a) (hc : sh0[c]? = some (10, len)) (h0 : 0 ≤ a) (h1 : a < len) (hr : ∀ j, rg c j = (lo, hi)) (hd : decode cc pc = .ok (.iaload, 1)) (k : ∀ v : Int32, lo ≤ v.toInt → v.toInt ≤ hi → v = h.2.1 c a.toNat → Go l own cc nL R nm rt n0 mc ms Xf Qf sl (pc + 1) lv (.int v :: st) h) : Go l own cc nL R nm rt n0 mc ms Xf Qf sl pc lv (.int i :: .ref c :: st) h :=
  go_iald (hv.sh hc) (ti_in ei h0 h1) hd (by rw [ti_ix ei h0]; exact k _ (by have := (hv.2.1 c a.toNat).1; rw [hr] at this; exact this) (by have := (hv.2.1 c a.toNat).2; rw [hr] at this; exact this) rfl)
theorem gi_bald {c len : Nat} {i : Int32} {a lo hi : Int} (hv : Iv P h) (ei : TI i a) (hc : sh0[c]? = some (9, len)) (h0 : 0 ≤ a) (h1 : a < len) (hr : ∀ j, rg c j = (lo, hi)) (hd : decode cc pc = .ok (.baload, 1)) (k : ∀ v : Int32, lo ≤ v.toInt → v.toInt ≤ hi → v = h.2.1 c a.toNat → Go l own cc nL R nm rt n0 mc ms Xf Qf sl (pc + 1) lv (.int v :: st) h) : Go l own cc nL R nm rt n0 mc ms Xf Qf sl pc lv (.int i :: .ref c :: st) h :=
  go_bald (hv.sh hc) (ti_in ei h0 h1) hd (by rw [ti_ix ei h0]; exact k _ (by have := (hv.2.1 c a.toNat).1; rw [hr] at this; exact this) (by have := (hv.2.1 c a.toNat).2; rw [hr] at this; exact this) rfl)
theorem gi_zald {c len : Nat} {i : Int32} {a lo hi : Int} (hv : Iv P h) (ei : TI i a) (hc : sh0[c]? = some (12, len)) (h0 : 0 ≤ a) (h1 : a < len) (hr : ∀ j, rg c j = (lo, hi)) (hd : decode cc pc = .ok (.baload, 1)) (k : ∀ v : Int32, lo ≤ v.toInt → v.toInt ≤ hi → v = h.2.1 c a.toNat → Go l own cc nL R nm rt n0 mc ms Xf Qf sl (pc + 1) lv (.int v :: st) h) : Go l own cc nL R nm rt n0 mc ms Xf Qf sl pc lv (.int i :: .ref c :: st) h :=
  go_zald (hv.sh hc) (ti_in ei h0 h1) hd (by rw [ti_ix ei h0]; exact k _ (by have := (hv.2.1 c a.toNat).1; rw [hr] at this; exact this) (by have := (hv.2.1 c a.toNat).2; rw [hr] at this; exact this) rfl)
theorem gi_iast {c len : Nat} {i x : Int32} {a b lo hi : Int} (hv : Iv P h) (ei : TI i a) (ex : TI x b) (hc : sh0[c]? = some (10, len)) (h0 : 0 ≤ a) (h1 : a < len) (hr : ∀ j, rg c j = (lo, hi)) (g1 : lo ≤ b) (g2 : b ≤ hi) (hk : c ≠ 0 ∧ c ≠ 70 ∧ c ≠ 34 ∧ c ≠ 4 ∧ c ≠ 9 ∧ c ≠ 20 ∧ c ≠ 25 ∧ (c < 73 ∨ 102 < c)) (hd : decode cc pc = .ok (.iastore, 1)) (k : ∀ h' : HP, Iv P h' → h' = hI h c a.toNat x → Go l own cc nL R nm rt n0 mc ms Xf Qf sl (pc + 1) lv st h') : Go l own cc nL R nm rt n0 mc ms Xf Qf sl pc lv (.int x :: .int i :: .ref c :: st) h :=
  go_iast (hv.sh hc) (ti_in ei h0 h1) hd (by rw [ti_ix ei h0]; exact k _ (hv.put ex (by rw [hr]; exact g1) (by rw [hr]; exact g2) (Or.inl hk.1) (Or.inl hk.2.1) (Or.inl hk.2.2.1) hk.2.2.2) rfl)
theorem gi_lald {c len : Nat} {i : Int32} {a : Int} (hv : Iv P h) (ei : TI i a) (hc : sh0[c]? = some (11, len)) (h0 : 0 ≤ a) (h1 : a < len) (hd : decode cc pc = .ok (.laload, 1)) (k : ∀ v : Int64, v = h.2.2.1 c a.toNat → Go l own cc nL R nm rt n0 mc ms Xf Qf sl (pc + 1) lv (.long v :: st) h) : Go l own cc nL R nm rt n0 mc ms Xf Qf sl pc lv (.int i :: .ref c :: st) h :=
  go_lald (hv.sh hc) (ti_in ei h0 h1) hd (by rw [ti_ix ei h0]; exact k _ rfl)
theorem gi_last {c len : Nat} {i : Int32} {x : Int64} {a : Int} (hv : Iv P h) (ei : TI i a) (hc : sh0[c]? = some (11, len)) (h0 : 0 ≤ a) (h1 : a < len) (hd : decode cc pc = .ok (.lastore, 1)) (k : ∀ h' : HP, Iv P h' → h' = hL h c a.toNat x → Go l own cc nL R nm rt n0 mc ms Xf Qf sl (pc + 1) lv st h') : Go l own cc nL R nm rt n0 mc ms Xf Qf sl pc lv (.long x :: .int i :: .ref c :: st) h :=
  go_last (hv.sh hc) (ti_in ei h0 h1) hd (by rw [ti_ix ei h0]; exact k _ hv.putL rfl)
theorem gi_bast {c len : Nat} {i x : Int32} {a : Int} (hv : Iv P h) (ei : TI i a) (hc : sh0[c]? = some (9, len)) (h0 : 0 ≤ a) (h1 : a < len) (hr : ∀ j, rg c j = (-128, 127)) (hk : c ≠ 0 ∧ c ≠ 70 ∧ c ≠ 34 ∧ c ≠ 4 ∧ c ≠ 9 ∧ c ≠ 20 ∧ c ≠ 25 ∧ (c < 73 ∨ 102 < c)) (hd : decode cc pc = .ok (.bastore, 1)) (k : ∀ h' : HP, Iv P h' → h' = hI h c a.toNat (vp_nar .byte x) → Go l own cc nL R nm rt n0 mc ms Xf Qf sl (pc + 1) lv st h') : Go l own cc nL R nm rt n0 mc ms Xf Qf sl pc lv (.int x :: .int i :: .ref c :: st) h :=
  go_bast (hv.sh hc) (ti_in ei h0 h1) hd (by rw [ti_ix ei h0]; exact k _ (hv.put (ti_rfl _) (by rw [hr]; exact (nar_b x).1) (by rw [hr]; exact (nar_b x).2) (Or.inl hk.1) (Or.inl hk.2.1) (Or.inl hk.2.2.1) hk.2.2.2) rfl)
theorem gi_put0 {idx : Nat} {x : Int32} {a : Int} (hv : Iv P h) (ex : TI x a) (hf : FP own nm idx 7 1) (h1 : 0 ≤ a) (h2 : a ≤ 500) (hd : decode cc pc = .ok (.putfield idx, 3)) (k : ∀ h' : HP, Iv (x, P.2.1, P.2.2.1, P.2.2.2) h' → h' = hI h 0 1 x → Go l own cc nL R nm rt n0 mc ms Xf Qf sl (pc + 3) lv st h') : Go l own cc nL R nm rt n0 mc ms Xf Qf sl pc lv (.int x :: .ref 0 :: st) h :=
  go_putI hf (hv.sh rfl) (Nat.le_of_ble_eq_true rfl) rfl (fun _ => rfl) (fun _ => rfl) hd (k _ (hv.put0 ex h1 h2) rfl)
theorem gi_putS {idx : Nat} {x : Int32} (hv : Iv P h) (ex : x = h.2.1 70 29) (hf : FP own nm idx 8 6) (hd : decode cc pc = .ok (.putfield idx, 3)) (k : ∀ h' : HP, Iv (gs P) h' → h' = hI h 70 6 x → Go l own cc nL R nm rt n0 mc ms Xf Qf sl (pc + 3) lv st h') : Go l own cc nL R nm rt n0 mc ms Xf Qf sl pc lv (.int x :: .ref 70 :: st) h :=
  go_putI hf (hv.sh rfl) (Nat.le_of_ble_eq_true rfl) rfl (fun _ => rfl) (fun _ => rfl) hd (k _ (hv.putS ex) rfl)
theorem gi_put1 {idx : Nat} {x : Int32} {a : Int} (hv : Iv P h) (ex : TI x a) (hf : FP own nm idx 8 2) (h1 : 0 ≤ a) (h2 : a ≤ 500) (hd : decode cc pc = .ok (.putfield idx, 3)) (k : ∀ h' : HP, Iv (P.1, x, P.2.2.1, P.2.2.2) h' → h' = hI h 70 2 x → Go l own cc nL R nm rt n0 mc ms Xf Qf sl (pc + 3) lv st h') : Go l own cc nL R nm rt n0 mc ms Xf Qf sl pc lv (.int x :: .ref 70 :: st) h :=
  go_putI hf (hv.sh rfl) (Nat.le_of_ble_eq_true rfl) rfl (fun _ => rfl) (fun _ => rfl) hd (k _ (hv.put1 ex h1 h2) rfl)
theorem gi_iret {v : Int32} {a : Int} (ex : TI v a) (hq : Qf (some (.int v)) h) (hv : Iv P h) (hd : decode cc pc = .ok (.ireturn, 1)) : Go l own cc nL R nm (some .int) 117 0 ms Xf Qf 0 pc lv [.int v] h :=
  go_iret rfl hq hv.ln (Nat.zero_le _) hd
theorem gi_zret {v : Int32} {a : Int} (ex : TI v a) (h0 : 0 ≤ a) (h1 : a ≤ 1) (hq : Qf (some (.int v)) h) (hv : Iv P h) (hd : decode cc pc = .ok (.ireturn, 1)) : Go l own cc nL R nm (some .boolean) 117 0 ms Xf Qf 0 pc lv [.int v] h :=
  go_iret (ti_nb (by rw [show v.toInt = a from ex]; exact h0) (by rw [show v.toInt = a from ex]; exact h1)) hq hv.ln (Nat.zero_le _) hd
theorem gi_lret {v : Int64} (hq : Qf (some (.long v)) h) (hv : Iv P h) (hd : decode cc pc = .ok (.lreturn, 1)) : Go l own cc nL R nm (some .long) 117 0 ms Xf Qf 0 pc lv [.long v] h :=
  go_lret hq hv.ln (Nat.zero_le _) hd
theorem gi_vret (hq : Qf none h) (hv : Iv P h) (hd : decode cc pc = .ok (.return_, 1)) : Go l own cc nL R nm none 117 0 ms Xf Qf 0 pc lv [] h :=
  go_vret hq hv.ln (Nat.zero_le _) hd
end GI
theorem Mt_iv {l : Launch} {y : MethodName} {cc : ByteArray} {nL : Nat} {rt : Option FieldType} {d : Nat} {as : List Value} {h : HP} {P : PP} {Qf : Option Value → HP → Prop} (hv : Iv P h) (hy : plainName y.cls = true) (hlen : (lg_sl as).length ≤ nL) (body : Go l y.cls cc nL (g_rm d 0 0) y.name rt 117 0 0 (fun _ _ => True) Qf 0 0 (lv_args 0 as) [] h) : Mt l y cc nL rt d as h 0 0 Qf := Mt_ofn 117 hv.ln hy hlen body

