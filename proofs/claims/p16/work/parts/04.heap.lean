/-! THE PURE HEAP: cells by their number (the n-th that was made), fields and elements by their type; its picture in the machine's heap from address z on. -/
abbrev HP : Type := List (Nat × Nat) × (Nat → Nat → Int32) × (Nat → Nat → Int64) × (Nat → Nat → Value)
/-- a value as the machine has it: cell k lies at z + k; the script (a mark here) at b -/
def gv (zb : Nat × Nat) : Value → Value
  | .ref k => .ref (zb.1 + k)
  | .retAddr _ => .ref zb.2
  | v => v
theorem gv_cat (zb : Nat × Nat) (v : Value) : (gv zb v).category = v.category := by cases v <;> rfl
def g_ty (ci : Nat) : Nat → FieldType := match ci with
  | 0 => tyX0
  | 1 => tyX1
  | 2 => tyX2
  | 3 => tyX3
  | 4 => tyX4
  | 5 => tyX5
  | 6 => tyX6
  | 7 => tyX7
  | _ => tyX8
def g_kind : FieldType → Nat
  | .long => 1
  | .object _ => 2
  | .array _ => 2
  | _ => 0
def g_fv (zb : Nat × Nat) (h : HP) (c j : Nat) (ty : FieldType) : Value := if g_kind ty = 0 then .int (h.2.1 c j) else if g_kind ty = 1 then .long (h.2.2.1 c j) else gv zb (h.2.2.2 c j)
/-- kinds 0 to 8: objects; 9 bytes, 10 ints, 11 longs, 12 booleans -/
def g_cell (cy : Nat → ClassId) (zb : Nat × Nat) (h : HP) (c : Nat) (sh : Nat × Nat) : va_E :=
  if sh.1 < 9 then .inr (sh.1, (List.range sh.2).map (fun j => g_fv zb h c j (g_ty sh.1 j)))
  else if sh.1 = 11 then .inl (cy 11, sh.2, .inr (.inl (h.2.2.1 c)))
  else .inl (cy sh.1, sh.2, .inl (h.2.1 c))
def g_ws (cy : Nat → ClassId) (zb : Nat × Nat) (h : HP) : va_W := h.1.zipIdx.map (fun q => (zb.1 + q.2, g_cell cy zb h q.2 q.1))
theorem g_ws_at (cy : Nat → ClassId) (zb : Nat × Nat) (h : HP) (c : Nat) : (g_ws cy zb h)[c]? = (h.1[c]?).map (fun sh => (zb.1 + c, g_cell cy zb h c sh)) := by
  unfold g_ws
  rw [List.getElem?_map, List.getElem?_zipIdx]
  cases h.1[c]? <;> simp
theorem g_ws_get {cy : Nat → ClassId} {zb : Nat × Nat} {h : HP} {c : Nat} {sh : Nat × Nat} (hc : h.1[c]? = some sh) : (g_ws cy zb h)[c]? = some (zb.1 + c, g_cell cy zb h c sh) := by
  rw [g_ws_at, hc]; rfl
theorem g_ws_len (cy : Nat → ClassId) (zb : Nat × Nat) (h : HP) : (g_ws cy zb h).length = h.1.length := by simp [g_ws]
theorem g_ws_set {cy : Nat → ClassId} {zb : Nat × Nat} {h h' : HP} {c : Nat} {sh : Nat × Nat} {e : va_E} (h1 : h'.1 = h.1) (hc : h.1[c]? = some sh) (ho : ∀ (c' : Nat) (sh' : Nat × Nat), c' ≠ c → g_cell cy zb h' c' sh' = g_cell cy zb h c' sh') (he : g_cell cy zb h' c sh = e) : (g_ws cy zb h).set c (zb.1 + c, e) = g_ws cy zb h' := by
  apply List.ext_getElem?
  intro i
  rw [List.getElem?_set, g_ws_at, g_ws_at, h1, g_ws_len]
  by_cases hi : c = i
  · subst hi
    rw [if_pos rfl, if_pos (List.getElem?_eq_some_iff.mp hc).1, hc]
    simp [he]
  · rw [if_neg hi]
    cases h.1[i]? with
    | none => rfl
    | some sh' => simp [ho i sh' (fun q => hi q.symm)]
theorem g_ws_push {cy : Nat → ClassId} {zb : Nat × Nat} {h h' : HP} {sh : Nat × Nat} {e : va_E} (h1 : h'.1 = h.1 ++ [sh]) (ho : ∀ (c' : Nat) (sh' : Nat × Nat), c' ≠ h.1.length → g_cell cy zb h' c' sh' = g_cell cy zb h c' sh') (he : g_cell cy zb h' h.1.length sh = e) : g_ws cy zb h ++ [(zb.1 + h.1.length, e)] = g_ws cy zb h' := by
  apply List.ext_getElem?
  intro i
  rw [g_ws_at, h1]
  by_cases hi : i < h.1.length
  · rw [List.getElem?_append_left (by rw [g_ws_len]; exact hi), List.getElem?_append_left hi, g_ws_at]
    cases h.1[i]? with
    | none => rfl
    | some sh' => simp [ho i sh' (by omega)]
  · rw [List.getElem?_append_right (by rw [g_ws_len]; omega), List.getElem?_append_right (by omega), g_ws_len]
    by_cases hz : i = h.1.length
    · subst hz
      simp [he]
    · have : ∃ q, i - h.1.length = q + 1 := ⟨i - h.1.length - 1, by omega⟩
      obtain ⟨q, hq⟩ := this
      rw [hq]
      rfl
theorem g_D (cy : Nat → ClassId) (zb : Nat × Nat) (h : HP) : va_D (fun q => zb.1 ≤ q) (g_ws cy zb h) := by
  have key : ∀ (i : Nat) (p : Nat × va_E), (g_ws cy zb h)[i]? = some p → p.1 = zb.1 + i := by
    intro i p hi
    rw [g_ws_at] at hi
    cases hs : h.1[i]? with
    | none => rw [hs] at hi; cases hi
    | some sh => rw [hs] at hi; cases hi; rfl
  refine ⟨fun i j p q hi hj hpq => ?_, fun k q hk => ?_⟩
  · have a := key i p hi
    have b := key j q hj
    omega
  · have a := key k q hk
    show zb.1 ≤ q.1
    omega
/-- one number, one long, one reference is written; a cell is made -/
def hI (h : HP) (c j : Nat) (x : Int32) : HP := (h.1, fun a b => if a = c ∧ b = j then x else h.2.1 a b, h.2.2.1, h.2.2.2)
def hL (h : HP) (c j : Nat) (x : Int64) : HP := (h.1, h.2.1, fun a b => if a = c ∧ b = j then x else h.2.2.1 a b, h.2.2.2)
def hR (h : HP) (c j : Nat) (x : Value) : HP := (h.1, h.2.1, h.2.2.1, fun a b => if a = c ∧ b = j then x else h.2.2.2 a b)
def hN (h : HP) (k n : Nat) : HP := (h.1 ++ [(k, n)], fun a b => if a = h.1.length then 0 else h.2.1 a b, fun a b => if a = h.1.length then 0 else h.2.2.1 a b, fun a b => if a = h.1.length then .null else h.2.2.2 a b)
theorem g_cell_I {cy : Nat → ClassId} {zb : Nat × Nat} {h : HP} {c j : Nat} {x : Int32} {c' : Nat} {sh' : Nat × Nat} (hn : c' ≠ c) : g_cell cy zb (hI h c j x) c' sh' = g_cell cy zb h c' sh' := by
  simp [g_cell, g_fv, hI, hn]
theorem g_cell_L {cy : Nat → ClassId} {zb : Nat × Nat} {h : HP} {c j : Nat} {x : Int64} {c' : Nat} {sh' : Nat × Nat} (hn : c' ≠ c) : g_cell cy zb (hL h c j x) c' sh' = g_cell cy zb h c' sh' := by
  simp [g_cell, g_fv, hL, hn]
theorem g_cell_R {cy : Nat → ClassId} {zb : Nat × Nat} {h : HP} {c j : Nat} {x : Value} {c' : Nat} {sh' : Nat × Nat} (hn : c' ≠ c) : g_cell cy zb (hR h c j x) c' sh' = g_cell cy zb h c' sh' := by
  simp [g_cell, g_fv, hR, hn]
theorem g_cell_N {cy : Nat → ClassId} {zb : Nat × Nat} {h : HP} {k n : Nat} {c' : Nat} {sh' : Nat × Nat} (hn : c' ≠ h.1.length) : g_cell cy zb (hN h k n) c' sh' = g_cell cy zb h c' sh' := by
  simp [g_cell, g_fv, hN, hn]
theorem g_map_set {n k : Nat} (F F' : Nat → Value) (v : Value) (hv : F' k = v) (ho : ∀ j, j ≠ k → F' j = F j) : ((List.range n).map F).set k v = (List.range n).map F' := by
  apply List.ext_getElem?
  intro i
  rw [List.getElem?_set]
  by_cases hi : k = i
  · subst hi
    rw [if_pos rfl]
    by_cases hk : k < n
    · simp [hk, hv]
    · simp [hk]
  · rw [if_neg hi]
    by_cases hk : i < n
    · simp [hk, ho i (fun q => hi q.symm)]
    · simp [hk]
theorem g_put_I {cy : Nat → ClassId} {zb : Nat × Nat} {h : HP} {c ci len k : Nat} {x : Int32} (hci : ci < 9) (hk0 : g_kind (g_ty ci k) = 0) : g_cell cy zb (hI h c k x) c (ci, len) = .inr (ci, ((List.range len).map (fun j => g_fv zb h c j (g_ty ci j))).set k (.int x)) := by
  rw [g_map_set (F' := fun j => g_fv zb (hI h c k x) c j (g_ty ci j))]
  · simp [g_cell, hci]
  · simp [g_fv, hk0, hI]
  · intro j hj
    simp [g_fv, hI, hj]
theorem g_put_L {cy : Nat → ClassId} {zb : Nat × Nat} {h : HP} {c ci len k : Nat} {x : Int64} (hci : ci < 9) (hk0 : g_kind (g_ty ci k) = 1) : g_cell cy zb (hL h c k x) c (ci, len) = .inr (ci, ((List.range len).map (fun j => g_fv zb h c j (g_ty ci j))).set k (.long x)) := by
  rw [g_map_set (F' := fun j => g_fv zb (hL h c k x) c j (g_ty ci j))]
  · simp [g_cell, hci]
  · simp [g_fv, hk0, hL]
  · intro j hj
    simp [g_fv, hL, hj]
theorem g_put_R {cy : Nat → ClassId} {zb : Nat × Nat} {h : HP} {c ci len k : Nat} {x : Value} (hci : ci < 9) (hk0 : g_kind (g_ty ci k) = 2) : g_cell cy zb (hR h c k x) c (ci, len) = .inr (ci, ((List.range len).map (fun j => g_fv zb h c j (g_ty ci j))).set k (gv zb x)) := by
  rw [g_map_set (F' := fun j => g_fv zb (hR h c k x) c j (g_ty ci j))]
  · simp [g_cell, hci]
  · simp [g_fv, hk0, hR]
  · intro j hj
    simp [g_fv, hR, hj]
def g_tys (cy : Nat → ClassId) : List (ClassId × FieldType) := [(cy 9, .byte), (cy 10, .int), (cy 11, .long), (cy 12, .boolean)]
/-! locals -/
def g_lv (lv : List (Nat × Value)) (i : Nat) : Option Value := (lv.find? (fun q => q.1 == i)).map (·.2)
def g_ms (zb : Nat × Nat) (lv : List (Nat × Value)) : List (Nat × Value) := lv.map (fun q => (q.1, gv zb q.2))
theorem g_lv_at {zb : Nat × Nat} {lv : List (Nat × Value)} {ls : Array Slot} {nL i : Nat} {v : Value} (hl : lv_has ls nL (g_ms zb lv)) (hv : g_lv lv i = some v) : ls[i]? = some (.val (gv zb v)) := by
  unfold g_lv at hv
  cases hf : lv.find? (fun q => q.1 == i) with
  | none => rw [hf] at hv; cases hv
  | some q =>
    rw [hf] at hv
    cases hv
    have h1 : q.1 = i := by simpa using List.find?_some hf
    have h2 := hl.2.2 (q.1, gv zb q.2) (List.mem_map.mpr ⟨q, List.mem_of_find?_eq_some hf, rfl⟩)
    rw [← h1]
    exact h2
def g_s1 (lv : List (Nat × Value)) (i : Nat) (v : Value) : List (Nat × Value) := (i, v) :: lv.filter (fun q => !(q.1 == i) && !(q.1 + 1 == i && q.2.category == 2))
def g_s2 (lv : List (Nat × Value)) (i : Nat) (v : Value) : List (Nat × Value) := (i, v) :: lv.filter (fun q => !(q.1 == i) && (!(q.1 == i + 1) && !(q.1 + 1 == i && q.2.category == 2)))
theorem g_s1_ms (zb : Nat × Nat) (lv : List (Nat × Value)) (i : Nat) (v : Value) : (i, gv zb v) :: (g_ms zb lv).filter (fun q => !(q.1 == i) && !(q.1 + 1 == i && q.2.category == 2)) = g_ms zb (g_s1 lv i v) := by
  simp only [g_ms, g_s1, List.filter_map, List.map_cons]
  congr 2
  apply List.filter_congr
  intro q _
  simp [gv_cat]
theorem g_s2_ms (zb : Nat × Nat) (lv : List (Nat × Value)) (i : Nat) (v : Value) : (i, gv zb v) :: (g_ms zb lv).filter (fun q => !(q.1 == i) && (!(q.1 == i + 1) && !(q.1 + 1 == i && q.2.category == 2))) = g_ms zb (g_s2 lv i v) := by
  simp only [g_ms, g_s2, List.filter_map, List.map_cons]
  congr 2
  apply List.filter_congr
  intro q _
  simp [gv_cat]
theorem g_args_ms (zb : Nat × Nat) (vs : List Value) : ∀ i, lv_args i (vs.map (gv zb)) = g_ms zb (lv_args i vs) := by
  induction vs with
  | nil => intro i; rfl
  | cons v vs ih =>
    intro i
    show (i, gv zb v) :: lv_args (if (gv zb v).category = 2 then i + 2 else i + 1) (vs.map (gv zb)) = (i, gv zb v) :: g_ms zb (lv_args (if v.category = 2 then i + 2 else i + 1) vs)
    rw [gv_cat, ih]
theorem g_sl_len (zb : Nat × Nat) (vs : List Value) : (lg_sl (vs.map (gv zb))).length = (lg_sl vs).length := by
  induction vs with
  | nil => rfl
  | cons v vs ih =>
    simp only [lg_sl, List.map_cons, List.flatMap_cons, List.length_append, gv_cat] at ih ⊢
    rw [ih]
    split <;> simp
theorem g_lv_sub {zb : Nat × Nat} {lv lv' : List (Nat × Value)} {ls : Array Slot} {nL : Nat} (hl : lv_has ls nL (g_ms zb lv)) (hs : lv'.map (fun q => g_lv lv q.1) = lv'.map (fun q => some q.2)) : lv_has ls nL (g_ms zb lv') := by
  refine ⟨hl.1, hl.2.1, fun q hq => ?_⟩
  obtain ⟨x, hx, rfl⟩ := List.mem_map.mp hq
  have h1 : ∀ y ∈ lv', g_lv lv y.1 = some y.2 := fun y hy => List.map_inj_left.mp hs y hy
  exact g_lv_at hl (h1 x hx)

