/-! THE CALCULUS: one instruction a row, over the pure heap. 'Go .. pc lv st h': the machine, in the method at pc with locals lv, stack st and the pool h, comes to the method's end with Qf. -/
def g_ret (cc : ByteArray) (rt : Option FieldType) (r : Option Value) (pc : Nat) : Prop := match r, rt with
  | none, none => decode cc pc = .ok (.return_, 1)
  | some (.int v), some ty => decode cc pc = .ok (.ireturn, 1) ∧ narrow ty (.int v) = .int v
  | some (.long _), some ty => decode cc pc = .ok (.lreturn, 1) ∧ ty = .long
  | _, _ => False
/-- what holds of the method's frame -/
def Cx (own : String) (cc : ByteArray) (nL : Nat) (nm : String) (n0 : Nat) (Xf : Nat → State → Prop) (D : va_G) (cy : Nat → ClassId) (zb : Nat × Nat) (p : Program) (s : State) (m : MethodId) (args : Array Value) (meth : Method) (c : Code) : Prop :=
  p.tables.exec = Jvm.exec ∧ c.code = cc ∧ c.maxLocals = nL ∧ s.vm.findClass own = some m.cls ∧ (∀ w ∈ gw, w.before args s = true) ∧ gw_N s ∧ va_K D vwCl (g_tys cy) s ∧ s.heap.size = zb.1 + n0 ∧ meth.name = nm ∧ Xf zb.2 s
/-- its end -/
def Ge (l : Launch) (cc : ByteArray) (R : Room) (rt : Option FieldType) (n0 mc ms : Nat) (Qf : Option Value → HP → Prop) (D : va_G) (cy : Nat → ClassId) (zb : Nat × Nat) (p : Program) (e : Env) (s : State) (m : MethodId) (args : Array Value) (below : List Frame) (meth : Method) (c : Code) (Q : State → Prop) : Prop :=
  ∀ (r : Option Value) (h : HP) (H : Heap) (locs : List Loc) (pc : Nat) (ls : Array Slot), Qf r h → g_ret cc rt r pc → h.1.length = n0 + mc → va_P D vwCl (g_ws cy zb h) H → va_S (fun q => zb.1 ≤ q) s.heap H locs → W p l e R s m args below meth c H locs mc ms Q (F0 m pc ls ((r.map (gv zb)).toList))
def Go (l : Launch) (own : String) (cc : ByteArray) (nL : Nat) (R : Room) (nm : String) (rt : Option FieldType) (n0 mc ms : Nat) (Xf : Nat → State → Prop) (Qf : Option Value → HP → Prop) (sl pc : Nat) (lv : List (Nat × Value)) (st : List Value) (h : HP) : Prop :=
  ∀ (p : Program) (e : Env) (s : State) (m : MethodId) (args : Array Value) (below : List Frame) (meth : Method) (c : Code) (D : va_G) (cy : Nat → ClassId) (zb : Nat × Nat) (Q : State → Prop) (H : Heap) (locs : List Loc) (ls : Array Slot),
    Cx own cc nL nm n0 Xf D cy zb p s m args meth c → Ge l cc R rt n0 mc ms Qf D cy zb p e s m args below meth c Q → va_P D vwCl (g_ws cy zb h) H → va_S (fun q => zb.1 ≤ q) s.heap H locs → n0 ≤ h.1.length → lv_has ls nL (g_ms zb lv) →
    W p l e R s m args below meth c H locs (h.1.length - n0) sl Q (F0 m pc ls (st.map (gv zb)))
theorem g_sz {p : Program} {l : Launch} {e : Env} {R : Room} {s : State} {m : MethodId} {args : Array Value} {below : List Frame} {meth : Method} {c : Code} {H : Heap} {locs : List Loc} {cells slots : Nat} {Q : State → Prop} {g : JFrame} (k : H.size ≤ s.heap.size + cells → W p l e R s m args below meth c H locs cells slots Q g) : W p l e R s m args below meth c H locs cells slots Q g :=
  fun T hT X => k (by rw [← hT]; exact X.heapSize) T hT X
theorem g_lo {D : va_G} {cy : Nat → ClassId} {zb : Nat × Nat} {h : HP} {H : Heap} {n0 : Nat} {s : State} {locs : List Loc} (hP : va_P D vwCl (g_ws cy zb h) H) (hS : va_S (fun q => zb.1 ≤ q) s.heap H locs) (h0 : s.heap.size = zb.1 + n0) (hn : n0 ≤ h.1.length) : zb.1 + h.1.length ≤ H.size := by
  by_cases hz : h.1.length = 0
  · have := hS.1
    omega
  · have hlt : h.1.length - 1 < h.1.length := by omega
    have h1 := (hP (h.1.length - 1) _ (g_ws_get (List.getElem?_eq_getElem hlt))).lt
    have h2 : zb.1 + (h.1.length - 1) < H.size := h1
    omega
/-- the classes -/
theorem g_in (ci : Nat) (C : String) (T : u_T) (N : Nat) (h : vwCl[ci]? = some (C, T, N)) : (∀ w ∈ u_ws C T N, w ∈ gw) ∧ (∀ k, k < N → parseFieldDescriptor (T k).2.2.1 = some (g_ty ci k)) ∧ (∀ a, a < N → ∀ b, b < N → a ≠ b → (T a).2.1 ≠ (T b).2.1) := by
  match ci, h with
  | 0, h => cases h; exact ⟨inGX0, tyX0_ok, nmX0⟩
  | 1, h => cases h; exact ⟨inGX1, tyX1_ok, nmX1⟩
  | 2, h => cases h; exact ⟨inGX2, tyX2_ok, nmX2⟩
  | 3, h => cases h; exact ⟨inGX3, tyX3_ok, nmX3⟩
  | 4, h => cases h; exact ⟨inGX4, tyX4_ok, nmX4⟩
  | 5, h => cases h; exact ⟨inGX5, tyX5_ok, nmX5⟩
  | 6, h => cases h; exact ⟨inGX6, tyX6_ok, nmX6⟩
  | 7, h => cases h; exact ⟨inGX7, tyX7_ok, nmX7⟩
  | 8, h => cases h; exact ⟨inGX8, tyX8_ok, nmX8⟩
  | k + 9, h => simp [vwCl] at h
def FL (own : String) (idx ci k : Nat) : Prop := ∃ (C : String) (T : u_T) (N : Nat), vwCl[ci]? = some (C, T, N) ∧ k < N ∧ (T k).1 = C ∧ (Cond.fieldLink own idx C (T k).2.1 (T k).2.2.1 ∈ gw ∨ ∃ host, Cond.fieldLinkNest own idx C (T k).2.1 (T k).2.2.1 host ∈ gw_n)
def FP (own nm : String) (idx ci k : Nat) : Prop := ∃ (C : String) (T : u_T) (N : Nat), vwCl[ci]? = some (C, T, N) ∧ k < N ∧ (T k).1 = C ∧ ((Cond.fieldLink own idx C (T k).2.1 (T k).2.2.1 ∈ gw ∧ (T k).2.2.2 = false) ∨ (Cond.fieldLink own idx C (T k).2.1 (T k).2.2.1 ∈ gw ∧ (T k).2.2.2 = true ∧ (T k).1 = own ∧ nm = "<init>") ∨ ∃ host, Cond.fieldLinkNest own idx C (T k).2.1 (T k).2.2.1 host ∈ gw_n ∧ (T k).2.2.2 = false)
section GO
variable {l : Launch} {own : String} {cc : ByteArray} {nL : Nat} {R : Room} {nm : String} {rt : Option FieldType} {n0 mc ms : Nat} {Xf : Nat → State → Prop} {Qf : Option Value → HP → Prop} {sl pc : Nat} {lv : List (Nat × Value)} {st : List Value} {h : HP}
theorem go_iadd {x y : Int32} (hd : decode cc pc = .ok (.iadd, 1)) (k : Go l own cc nL R nm rt n0 mc ms Xf Qf  sl (pc + 1) lv (.int (x + y) :: st) h) : Go l own cc nL R nm rt n0 mc ms Xf Qf  sl pc lv (.int y :: .int x :: st) h := by
  intro p e s m args below meth c D cy zb Q H locs ls C E hP hS hn hl
  exact lv_iadd C.1 C.2.1 hd  (k p e s m args below meth c D cy zb Q H locs ls C E hP hS hn hl)
theorem go_isub {x y : Int32} (hd : decode cc pc = .ok (.isub, 1)) (k : Go l own cc nL R nm rt n0 mc ms Xf Qf  sl (pc + 1) lv (.int (x - y) :: st) h) : Go l own cc nL R nm rt n0 mc ms Xf Qf  sl pc lv (.int y :: .int x :: st) h := by
  intro p e s m args below meth c D cy zb Q H locs ls C E hP hS hn hl
  exact lv_isub C.1 C.2.1 hd  (k p e s m args below meth c D cy zb Q H locs ls C E hP hS hn hl)
theorem go_imul {x y : Int32} (hd : decode cc pc = .ok (.imul, 1)) (k : Go l own cc nL R nm rt n0 mc ms Xf Qf  sl (pc + 1) lv (.int (x * y) :: st) h) : Go l own cc nL R nm rt n0 mc ms Xf Qf  sl pc lv (.int y :: .int x :: st) h := by
  intro p e s m args below meth c D cy zb Q H locs ls C E hP hS hn hl
  exact lv_imul C.1 C.2.1 hd  (k p e s m args below meth c D cy zb Q H locs ls C E hP hS hn hl)
theorem go_iand {x y : Int32} (hd : decode cc pc = .ok (.iand, 1)) (k : Go l own cc nL R nm rt n0 mc ms Xf Qf  sl (pc + 1) lv (.int (x &&& y) :: st) h) : Go l own cc nL R nm rt n0 mc ms Xf Qf  sl pc lv (.int y :: .int x :: st) h := by
  intro p e s m args below meth c D cy zb Q H locs ls C E hP hS hn hl
  exact lv_iand C.1 C.2.1 hd  (k p e s m args below meth c D cy zb Q H locs ls C E hP hS hn hl)
theorem go_ior {x y : Int32} (hd : decode cc pc = .ok (.ior, 1)) (k : Go l own cc nL R nm rt n0 mc ms Xf Qf  sl (pc + 1) lv (.int (x ||| y) :: st) h) : Go l own cc nL R nm rt n0 mc ms Xf Qf  sl pc lv (.int y :: .int x :: st) h := by
  intro p e s m args below meth c D cy zb Q H locs ls C E hP hS hn hl
  exact lv_ior C.1 C.2.1 hd  (k p e s m args below meth c D cy zb Q H locs ls C E hP hS hn hl)
theorem go_ixor {x y : Int32} (hd : decode cc pc = .ok (.ixor, 1)) (k : Go l own cc nL R nm rt n0 mc ms Xf Qf  sl (pc + 1) lv (.int (x ^^^ y) :: st) h) : Go l own cc nL R nm rt n0 mc ms Xf Qf  sl pc lv (.int y :: .int x :: st) h := by
  intro p e s m args below meth c D cy zb Q H locs ls C E hP hS hn hl
  exact lv_ixor C.1 C.2.1 hd  (k p e s m args below meth c D cy zb Q H locs ls C E hP hS hn hl)
theorem go_ishl {x y : Int32} (hd : decode cc pc = .ok (.ishl, 1)) (k : Go l own cc nL R nm rt n0 mc ms Xf Qf  sl (pc + 1) lv (.int (x <<< (y &&& 31)) :: st) h) : Go l own cc nL R nm rt n0 mc ms Xf Qf  sl pc lv (.int y :: .int x :: st) h := by
  intro p e s m args below meth c D cy zb Q H locs ls C E hP hS hn hl
  exact lv_ishl C.1 C.2.1 hd  (k p e s m args below meth c D cy zb Q H locs ls C E hP hS hn hl)
theorem go_ishr {x y : Int32} (hd : decode cc pc = .ok (.ishr, 1)) (k : Go l own cc nL R nm rt n0 mc ms Xf Qf  sl (pc + 1) lv (.int (x >>> (y &&& 31)) :: st) h) : Go l own cc nL R nm rt n0 mc ms Xf Qf  sl pc lv (.int y :: .int x :: st) h := by
  intro p e s m args below meth c D cy zb Q H locs ls C E hP hS hn hl
  exact lv_ishr C.1 C.2.1 hd  (k p e s m args below meth c D cy zb Q H locs ls C E hP hS hn hl)
theorem go_idiv {x y : Int32} (hne : ¬ y = 0) (hd : decode cc pc = .ok (.idiv, 1)) (k : Go l own cc nL R nm rt n0 mc ms Xf Qf  sl (pc + 1) lv (.int (x / y) :: st) h) : Go l own cc nL R nm rt n0 mc ms Xf Qf  sl pc lv (.int y :: .int x :: st) h := by
  intro p e s m args below meth c D cy zb Q H locs ls C E hP hS hn hl
  exact lv_idiv C.1 C.2.1 hd hne (k p e s m args below meth c D cy zb Q H locs ls C E hP hS hn hl)
theorem go_irem {x y : Int32} (hne : ¬ y = 0) (hd : decode cc pc = .ok (.irem, 1)) (k : Go l own cc nL R nm rt n0 mc ms Xf Qf  sl (pc + 1) lv (.int (x - x / y * y) :: st) h) : Go l own cc nL R nm rt n0 mc ms Xf Qf  sl pc lv (.int y :: .int x :: st) h := by
  intro p e s m args below meth c D cy zb Q H locs ls C E hP hS hn hl
  exact lv_irem C.1 C.2.1 hd hne (k p e s m args below meth c D cy zb Q H locs ls C E hP hS hn hl)
theorem go_ladd {x y : Int64} (hd : decode cc pc = .ok (.ladd, 1)) (k : Go l own cc nL R nm rt n0 mc ms Xf Qf  sl (pc + 1) lv (.long (x + y) :: st) h) : Go l own cc nL R nm rt n0 mc ms Xf Qf  sl pc lv (.long y :: .long x :: st) h := by
  intro p e s m args below meth c D cy zb Q H locs ls C E hP hS hn hl
  exact lv_ladd C.1 C.2.1 hd  (k p e s m args below meth c D cy zb Q H locs ls C E hP hS hn hl)
theorem go_lsub {x y : Int64} (hd : decode cc pc = .ok (.lsub, 1)) (k : Go l own cc nL R nm rt n0 mc ms Xf Qf  sl (pc + 1) lv (.long (x - y) :: st) h) : Go l own cc nL R nm rt n0 mc ms Xf Qf  sl pc lv (.long y :: .long x :: st) h := by
  intro p e s m args below meth c D cy zb Q H locs ls C E hP hS hn hl
  exact lv_lsub C.1 C.2.1 hd  (k p e s m args below meth c D cy zb Q H locs ls C E hP hS hn hl)
theorem go_land {x y : Int64} (hd : decode cc pc = .ok (.land, 1)) (k : Go l own cc nL R nm rt n0 mc ms Xf Qf  sl (pc + 1) lv (.long (x &&& y) :: st) h) : Go l own cc nL R nm rt n0 mc ms Xf Qf  sl pc lv (.long y :: .long x :: st) h := by
  intro p e s m args below meth c D cy zb Q H locs ls C E hP hS hn hl
  exact lv_land C.1 C.2.1 hd  (k p e s m args below meth c D cy zb Q H locs ls C E hP hS hn hl)
theorem go_lor {x y : Int64} (hd : decode cc pc = .ok (.lor, 1)) (k : Go l own cc nL R nm rt n0 mc ms Xf Qf  sl (pc + 1) lv (.long (x ||| y) :: st) h) : Go l own cc nL R nm rt n0 mc ms Xf Qf  sl pc lv (.long y :: .long x :: st) h := by
  intro p e s m args below meth c D cy zb Q H locs ls C E hP hS hn hl
  exact lv_lor C.1 C.2.1 hd  (k p e s m args below meth c D cy zb Q H locs ls C E hP hS hn hl)
theorem go_lxor {x y : Int64} (hd : decode cc pc = .ok (.lxor, 1)) (k : Go l own cc nL R nm rt n0 mc ms Xf Qf  sl (pc + 1) lv (.long (x ^^^ y) :: st) h) : Go l own cc nL R nm rt n0 mc ms Xf Qf  sl pc lv (.long y :: .long x :: st) h := by
  intro p e s m args below meth c D cy zb Q H locs ls C E hP hS hn hl
  exact lv_lxor C.1 C.2.1 hd  (k p e s m args below meth c D cy zb Q H locs ls C E hP hS hn hl)
theorem go_lshl {x : Int64} {y : Int32} (hd : decode cc pc = .ok (.lshl, 1)) (k : Go l own cc nL R nm rt n0 mc ms Xf Qf  sl (pc + 1) lv (.long (x <<< (y.toInt64 &&& 63)) :: st) h) : Go l own cc nL R nm rt n0 mc ms Xf Qf  sl pc lv (.int y :: .long x :: st) h := by
  intro p e s m args below meth c D cy zb Q H locs ls C E hP hS hn hl
  exact lv_lshl C.1 C.2.1 hd rfl (k p e s m args below meth c D cy zb Q H locs ls C E hP hS hn hl)
theorem go_lshr {x : Int64} {y : Int32} (hd : decode cc pc = .ok (.lshr, 1)) (k : Go l own cc nL R nm rt n0 mc ms Xf Qf  sl (pc + 1) lv (.long (x >>> (y.toInt64 &&& 63)) :: st) h) : Go l own cc nL R nm rt n0 mc ms Xf Qf  sl pc lv (.int y :: .long x :: st) h := by
  intro p e s m args below meth c D cy zb Q H locs ls C E hP hS hn hl
  exact lv_lshr C.1 C.2.1 hd rfl (k p e s m args below meth c D cy zb Q H locs ls C E hP hS hn hl)
theorem go_lushr {x : Int64} {y : Int32} (hd : decode cc pc = .ok (.lushr, 1)) (k : Go l own cc nL R nm rt n0 mc ms Xf Qf  sl (pc + 1) lv (.long ((x.toUInt64 >>> (y.toInt64.toUInt64 &&& Int64.toUInt64 63)).toInt64) :: st) h) : Go l own cc nL R nm rt n0 mc ms Xf Qf  sl pc lv (.int y :: .long x :: st) h := by
  intro p e s m args below meth c D cy zb Q H locs ls C E hP hS hn hl
  exact lv_lushr C.1 C.2.1 hd rfl (k p e s m args below meth c D cy zb Q H locs ls C E hP hS hn hl)
theorem go_iushr {x y : Int32} (hd : decode cc pc = .ok (.iushr, 1)) (k : Go l own cc nL R nm rt n0 mc ms Xf Qf  sl (pc + 1) lv (.int ((x.toUInt32 >>> (y.toUInt32 &&& Int32.toUInt32 31)).toInt32) :: st) h) : Go l own cc nL R nm rt n0 mc ms Xf Qf  sl pc lv (.int y :: .int x :: st) h := by
  intro p e s m args below meth c D cy zb Q H locs ls C E hP hS hn hl
  exact lv_iushr C.1 C.2.1 hd rfl (k p e s m args below meth c D cy zb Q H locs ls C E hP hS hn hl)
theorem go_i2l {x : Int32} (hd : decode cc pc = .ok (.i2l, 1)) (k : Go l own cc nL R nm rt n0 mc ms Xf Qf  sl (pc + 1) lv (.long x.toInt64 :: st) h) : Go l own cc nL R nm rt n0 mc ms Xf Qf  sl pc lv (.int x :: st) h := by
  intro p e s m args below meth c D cy zb Q H locs ls C E hP hS hn hl
  exact lv_i2l C.1 C.2.1 hd rfl (k p e s m args below meth c D cy zb Q H locs ls C E hP hS hn hl)
theorem go_l2i {x : Int64} (hd : decode cc pc = .ok (.l2i, 1)) (k : Go l own cc nL R nm rt n0 mc ms Xf Qf  sl (pc + 1) lv (.int x.toInt32 :: st) h) : Go l own cc nL R nm rt n0 mc ms Xf Qf  sl pc lv (.long x :: st) h := by
  intro p e s m args below meth c D cy zb Q H locs ls C E hP hS hn hl
  exact lv_l2i C.1 C.2.1 hd rfl (k p e s m args below meth c D cy zb Q H locs ls C E hP hS hn hl)
theorem go_i2b {x : Int32} (hd : decode cc pc = .ok (.i2b, 1)) (k : Go l own cc nL R nm rt n0 mc ms Xf Qf  sl (pc + 1) lv (.int x.toInt8.toInt32 :: st) h) : Go l own cc nL R nm rt n0 mc ms Xf Qf  sl pc lv (.int x :: st) h := by
  intro p e s m args below meth c D cy zb Q H locs ls C E hP hS hn hl
  exact lv_i2b C.1 C.2.1 hd rfl (k p e s m args below meth c D cy zb Q H locs ls C E hP hS hn hl)
theorem go_lcmp {x y : Int64} (hd : decode cc pc = .ok (.lcmp, 1)) (k : Go l own cc nL R nm rt n0 mc ms Xf Qf  sl (pc + 1) lv (.int (lg_cmp x y) :: st) h) : Go l own cc nL R nm rt n0 mc ms Xf Qf  sl pc lv (.long y :: .long x :: st) h := by
  intro p e s m args below meth c D cy zb Q H locs ls C E hP hS hn hl
  exact W.lcmp C.1 C.2.1 hd  (k p e s m args below meth c D cy zb Q H locs ls C E hP hS hn hl)
theorem go_iconst {n : Int} {v : Int32} (hv : Int32.ofInt n = v) (hd : decode cc pc = .ok (.iconst n, 1)) (k : Go l own cc nL R nm rt n0 mc ms Xf Qf  sl (pc + 1) lv (.int v :: st) h) : Go l own cc nL R nm rt n0 mc ms Xf Qf  sl pc lv st h := by
  intro p e s m args below meth c D cy zb Q H locs ls C E hP hS hn hl
  exact lv_iconst C.1 C.2.1 hd hv (k p e s m args below meth c D cy zb Q H locs ls C E hP hS hn hl)
theorem go_bipush {n : Int} {v : Int32} (hv : (Int8.ofInt n).toInt32 = v) (hd : decode cc pc = .ok (.bipush n, 2)) (k : Go l own cc nL R nm rt n0 mc ms Xf Qf  sl (pc + 2) lv (.int v :: st) h) : Go l own cc nL R nm rt n0 mc ms Xf Qf  sl pc lv st h := by
  intro p e s m args below meth c D cy zb Q H locs ls C E hP hS hn hl
  exact lv_bipush C.1 C.2.1 hd hv (k p e s m args below meth c D cy zb Q H locs ls C E hP hS hn hl)
theorem go_sipush {n : Int} {v : Int32} (hv : (Int16.ofInt n).toInt32 = v) (hd : decode cc pc = .ok (.sipush n, 3)) (k : Go l own cc nL R nm rt n0 mc ms Xf Qf  sl (pc + 3) lv (.int v :: st) h) : Go l own cc nL R nm rt n0 mc ms Xf Qf  sl pc lv st h := by
  intro p e s m args below meth c D cy zb Q H locs ls C E hP hS hn hl
  exact lv_sipush C.1 C.2.1 hd hv (k p e s m args below meth c D cy zb Q H locs ls C E hP hS hn hl)
theorem go_lconst {n : Fin 2} {v : Int64} (hv : Int64.ofNat (n : Nat) = v) (hd : decode cc pc = .ok (.lconst n, 1)) (k : Go l own cc nL R nm rt n0 mc ms Xf Qf  sl (pc + 1) lv (.long v :: st) h) : Go l own cc nL R nm rt n0 mc ms Xf Qf  sl pc lv st h := by
  intro p e s m args below meth c D cy zb Q H locs ls C E hP hS hn hl
  exact lv_lconst C.1 C.2.1 hd hv (k p e s m args below meth c D cy zb Q H locs ls C E hP hS hn hl)
theorem go_ldc {idx : Nat} {v : Int32} (hc : Cond.constant own idx v ∈ gw) (hd : decode cc pc = .ok (.ldc idx, 2)) (k : Go l own cc nL R nm rt n0 mc ms Xf Qf  sl (pc + 2) lv (.int v :: st) h) : Go l own cc nL R nm rt n0 mc ms Xf Qf  sl pc lv st h := by
  intro p e s m args below meth c D cy zb Q H locs ls C E hP hS hn hl
  exact lv_ldc C.1 C.2.1 C.2.2.2.1 (C.2.2.2.2.1 _ hc) hd (k p e s m args below meth c D cy zb Q H locs ls C E hP hS hn hl)
theorem go_ldc2 {idx : Nat} {v : Int64} (hc : Cond.constantLong own idx v ∈ gw) (hd : decode cc pc = .ok (.ldc2_w idx, 3)) (k : Go l own cc nL R nm rt n0 mc ms Xf Qf  sl (pc + 3) lv (.long v :: st) h) : Go l own cc nL R nm rt n0 mc ms Xf Qf  sl pc lv st h := by
  intro p e s m args below meth c D cy zb Q H locs ls C E hP hS hn hl
  exact lv_ldc2 C.1 C.2.1 C.2.2.2.1 (C.2.2.2.2.1 _ hc) hd (k p e s m args below meth c D cy zb Q H locs ls C E hP hS hn hl)
theorem go_iload_n {q : Fin 4} {x : Int32} (hv : g_lv lv (q : Nat) = some (.int x)) (hd : decode cc pc = .ok (.iload_n q, 1)) (k : Go l own cc nL R nm rt n0 mc ms Xf Qf  sl (pc + 1) lv (.int x :: st) h) : Go l own cc nL R nm rt n0 mc ms Xf Qf  sl pc lv st h := by
  intro p e s m args below meth c D cy zb Q H locs ls C E hP hS hn hl
  exact lv_iload_n C.1 C.2.1 hd rfl (g_lv_at hl hv) (k p e s m args below meth c D cy zb Q H locs ls C E hP hS hn hl)
theorem go_iload {q : Nat} {x : Int32} (hv : g_lv lv q = some (.int x)) (hd : decode cc pc = .ok (.iload q, 2)) (k : Go l own cc nL R nm rt n0 mc ms Xf Qf  sl (pc + 2) lv (.int x :: st) h) : Go l own cc nL R nm rt n0 mc ms Xf Qf  sl pc lv st h := by
  intro p e s m args below meth c D cy zb Q H locs ls C E hP hS hn hl
  exact lv_iload C.1 C.2.1 hd (g_lv_at hl hv) (k p e s m args below meth c D cy zb Q H locs ls C E hP hS hn hl)
theorem go_lload_n {q : Fin 4} {x : Int64} (hv : g_lv lv (q : Nat) = some (.long x)) (hd : decode cc pc = .ok (.lload_n q, 1)) (k : Go l own cc nL R nm rt n0 mc ms Xf Qf  sl (pc + 1) lv (.long x :: st) h) : Go l own cc nL R nm rt n0 mc ms Xf Qf  sl pc lv st h := by
  intro p e s m args below meth c D cy zb Q H locs ls C E hP hS hn hl
  exact lv_lload_n C.1 C.2.1 hd rfl (g_lv_at hl hv) (k p e s m args below meth c D cy zb Q H locs ls C E hP hS hn hl)
theorem go_lload {q : Nat} {x : Int64} (hv : g_lv lv q = some (.long x)) (hd : decode cc pc = .ok (.lload q, 2)) (k : Go l own cc nL R nm rt n0 mc ms Xf Qf  sl (pc + 2) lv (.long x :: st) h) : Go l own cc nL R nm rt n0 mc ms Xf Qf  sl pc lv st h := by
  intro p e s m args below meth c D cy zb Q H locs ls C E hP hS hn hl
  exact lv_lload C.1 C.2.1 hd (g_lv_at hl hv) (k p e s m args below meth c D cy zb Q H locs ls C E hP hS hn hl)
theorem go_aload_n {q : Fin 4} {x : Nat} (hv : g_lv lv (q : Nat) = some (.ref x)) (hd : decode cc pc = .ok (.aload_n q, 1)) (k : Go l own cc nL R nm rt n0 mc ms Xf Qf  sl (pc + 1) lv (.ref x :: st) h) : Go l own cc nL R nm rt n0 mc ms Xf Qf  sl pc lv st h := by
  intro p e s m args below meth c D cy zb Q H locs ls C E hP hS hn hl
  exact lv_aload_n C.1 C.2.1 hd rfl (g_lv_at hl hv) (k p e s m args below meth c D cy zb Q H locs ls C E hP hS hn hl)
theorem go_aload_nS {q : Fin 4} {x : Nat} (hv : g_lv lv (q : Nat) = some (.retAddr x)) (hd : decode cc pc = .ok (.aload_n q, 1)) (k : Go l own cc nL R nm rt n0 mc ms Xf Qf  sl (pc + 1) lv (.retAddr x :: st) h) : Go l own cc nL R nm rt n0 mc ms Xf Qf  sl pc lv st h := by
  intro p e s m args below meth c D cy zb Q H locs ls C E hP hS hn hl
  exact lv_aload_n C.1 C.2.1 hd rfl (g_lv_at hl hv) (k p e s m args below meth c D cy zb Q H locs ls C E hP hS hn hl)
theorem go_istore_n {q : Fin 4} {x : Int32} (hq : (q : Nat) < nL) (hd : decode cc pc = .ok (.istore_n q, 1)) (k : Go l own cc nL R nm rt n0 mc ms Xf Qf  sl (pc + 1) (g_s1 lv (q : Nat) (.int x)) st h) : Go l own cc nL R nm rt n0 mc ms Xf Qf  sl pc lv (.int x :: st) h := by
  intro p e s m args below meth c D cy zb Q H locs ls C E hP hS hn hl
  exact lv_istore_n C.1 C.2.1 hd rfl hl hq (g_s1_ms zb lv (q : Nat) (.int x)) (fun ls2 hl2 => (k p e s m args below meth c D cy zb Q H locs ls2 C E hP hS hn hl2))
theorem go_istore {q : Nat} {x : Int32} (hq : q < nL) (hd : decode cc pc = .ok (.istore q, 2)) (k : Go l own cc nL R nm rt n0 mc ms Xf Qf  sl (pc + 2) (g_s1 lv q (.int x)) st h) : Go l own cc nL R nm rt n0 mc ms Xf Qf  sl pc lv (.int x :: st) h := by
  intro p e s m args below meth c D cy zb Q H locs ls C E hP hS hn hl
  exact lv_istore C.1 C.2.1 hd hl hq (g_s1_ms zb lv q (.int x)) (fun ls2 hl2 => (k p e s m args below meth c D cy zb Q H locs ls2 C E hP hS hn hl2))
theorem go_astore_n {q : Fin 4} {x : Nat} (hq : (q : Nat) < nL) (hd : decode cc pc = .ok (.astore_n q, 1)) (k : Go l own cc nL R nm rt n0 mc ms Xf Qf  sl (pc + 1) (g_s1 lv (q : Nat) (.ref x)) st h) : Go l own cc nL R nm rt n0 mc ms Xf Qf  sl pc lv (.ref x :: st) h := by
  intro p e s m args below meth c D cy zb Q H locs ls C E hP hS hn hl
  exact lv_astore_n C.1 C.2.1 hd rfl hl hq (g_s1_ms zb lv (q : Nat) (.ref x)) (fun ls2 hl2 => (k p e s m args below meth c D cy zb Q H locs ls2 C E hP hS hn hl2))
theorem go_lstore_n {q : Fin 4} {x : Int64} (hq : (q : Nat) + 1 < nL) (hd : decode cc pc = .ok (.lstore_n q, 1)) (k : Go l own cc nL R nm rt n0 mc ms Xf Qf  sl (pc + 1) (g_s2 lv (q : Nat) (.long x)) st h) : Go l own cc nL R nm rt n0 mc ms Xf Qf  sl pc lv (.long x :: st) h := by
  intro p e s m args below meth c D cy zb Q H locs ls C E hP hS hn hl
  exact lv_lstore_n C.1 C.2.1 hd rfl hl hq (g_s2_ms zb lv (q : Nat) (.long x)) (fun ls2 hl2 => (k p e s m args below meth c D cy zb Q H locs ls2 C E hP hS hn hl2))
theorem go_lstore {q : Nat} {x : Int64} (hq : q + 1 < nL) (hd : decode cc pc = .ok (.lstore q, 2)) (k : Go l own cc nL R nm rt n0 mc ms Xf Qf  sl (pc + 2) (g_s2 lv q (.long x)) st h) : Go l own cc nL R nm rt n0 mc ms Xf Qf  sl pc lv (.long x :: st) h := by
  intro p e s m args below meth c D cy zb Q H locs ls C E hP hS hn hl
  exact lv_lstore C.1 C.2.1 hd hl hq (g_s2_ms zb lv q (.long x)) (fun ls2 hl2 => (k p e s m args below meth c D cy zb Q H locs ls2 C E hP hS hn hl2))
theorem g_lv_get {lv : List (Nat × Value)} {q : Nat} {v : Value} (zb : Nat × Nat) (hv : g_lv lv q = some v) : ∃ j : Nat, (g_ms zb lv)[j]? = some (q, gv zb v) := by
  unfold g_lv at hv
  cases hf : lv.find? (fun q' => q'.1 == q) with
  | none => rw [hf] at hv; cases hv
  | some x =>
    rw [hf] at hv
    cases hv
    have h1 : x.1 = q := by simpa using List.find?_some hf
    obtain ⟨j, hj⟩ := List.getElem?_of_mem (List.mem_of_find?_eq_some hf)
    refine ⟨j, ?_⟩
    unfold g_ms
    rw [List.getElem?_map, hj, ← h1]
    rfl
theorem go_iinc {q : Nat} {n : Int} {x : Int32} (hq : q < nL) (hv : g_lv lv q = some (.int x)) (hd : decode cc pc = .ok (.iinc q n, 3)) (k : Go l own cc nL R nm rt n0 mc ms Xf Qf  sl (pc + 3) (g_s1 lv q (.int (x + Int32.ofInt n))) st h) : Go l own cc nL R nm rt n0 mc ms Xf Qf  sl pc lv st h := by
  intro p e s m args below meth c D cy zb Q H locs ls C E hP hS hn hl
  obtain ⟨j, hj⟩ := g_lv_get zb hv
  exact lv_iinc C.1 C.2.1 hd hl hj rfl hq (g_s1_ms zb lv q (.int (x + Int32.ofInt n))) (fun ls2 hl2 => (k p e s m args below meth c D cy zb Q H locs ls2 C E hP hS hn hl2))
theorem go_goto {off : Int} {tgt : Nat} (ht : (pc : Int) + off = (tgt : Int)) (hd : decode cc pc = .ok (.goto off, 3)) (k : Go l own cc nL R nm rt n0 mc ms Xf Qf  sl tgt lv st h) : Go l own cc nL R nm rt n0 mc ms Xf Qf  sl pc lv st h := by
  intro p e s m args below meth c D cy zb Q H locs ls C E hP hS hn hl
  exact lv_goto C.1 C.2.1 hd ht (k p e s m args below meth c D cy zb Q H locs ls C E hP hS hn hl)
theorem go_if_eq {x : Int32} {off : Int} {tgt : Nat} (ht : (pc : Int) + off = (tgt : Int)) (hd : decode cc pc = .ok (.ifCond .eq off, 3)) (kt : x = 0 → Go l own cc nL R nm rt n0 mc ms Xf Qf  sl tgt lv st h) (kf : ¬ x = 0 → Go l own cc nL R nm rt n0 mc ms Xf Qf  sl (pc + 3) lv st h) : Go l own cc nL R nm rt n0 mc ms Xf Qf  sl pc lv (.int x :: st) h := by
  intro p e s m args below meth c D cy zb Q H locs ls C E hP hS hn hl
  exact lv_if_eq C.1 C.2.1 hd ht (fun q => kt q p e s m args below meth c D cy zb Q H locs ls C E hP hS hn hl) (fun q => kf q p e s m args below meth c D cy zb Q H locs ls C E hP hS hn hl)
theorem go_icmp_eq {x y : Int32} {off : Int} {tgt : Nat} (ht : (pc : Int) + off = (tgt : Int)) (hd : decode cc pc = .ok (.if_icmp .eq off, 3)) (kt : x = y → Go l own cc nL R nm rt n0 mc ms Xf Qf  sl tgt lv st h) (kf : ¬ x = y → Go l own cc nL R nm rt n0 mc ms Xf Qf  sl (pc + 3) lv st h) : Go l own cc nL R nm rt n0 mc ms Xf Qf  sl pc lv (.int y :: .int x :: st) h := by
  intro p e s m args below meth c D cy zb Q H locs ls C E hP hS hn hl
  exact lv_icmp_eq C.1 C.2.1 hd ht (fun q => kt q p e s m args below meth c D cy zb Q H locs ls C E hP hS hn hl) (fun q => kf q p e s m args below meth c D cy zb Q H locs ls C E hP hS hn hl)
theorem go_if_ne {x : Int32} {off : Int} {tgt : Nat} (ht : (pc : Int) + off = (tgt : Int)) (hd : decode cc pc = .ok (.ifCond .ne off, 3)) (kt : ¬ x = 0 → Go l own cc nL R nm rt n0 mc ms Xf Qf  sl tgt lv st h) (kf : x = 0 → Go l own cc nL R nm rt n0 mc ms Xf Qf  sl (pc + 3) lv st h) : Go l own cc nL R nm rt n0 mc ms Xf Qf  sl pc lv (.int x :: st) h := by
  intro p e s m args below meth c D cy zb Q H locs ls C E hP hS hn hl
  exact lv_if_ne C.1 C.2.1 hd ht (fun q => kt q p e s m args below meth c D cy zb Q H locs ls C E hP hS hn hl) (fun q => kf q p e s m args below meth c D cy zb Q H locs ls C E hP hS hn hl)
theorem go_icmp_ne {x y : Int32} {off : Int} {tgt : Nat} (ht : (pc : Int) + off = (tgt : Int)) (hd : decode cc pc = .ok (.if_icmp .ne off, 3)) (kt : ¬ x = y → Go l own cc nL R nm rt n0 mc ms Xf Qf  sl tgt lv st h) (kf : x = y → Go l own cc nL R nm rt n0 mc ms Xf Qf  sl (pc + 3) lv st h) : Go l own cc nL R nm rt n0 mc ms Xf Qf  sl pc lv (.int y :: .int x :: st) h := by
  intro p e s m args below meth c D cy zb Q H locs ls C E hP hS hn hl
  exact lv_icmp_ne C.1 C.2.1 hd ht (fun q => kt q p e s m args below meth c D cy zb Q H locs ls C E hP hS hn hl) (fun q => kf q p e s m args below meth c D cy zb Q H locs ls C E hP hS hn hl)
theorem go_if_lt {x : Int32} {off : Int} {tgt : Nat} (ht : (pc : Int) + off = (tgt : Int)) (hd : decode cc pc = .ok (.ifCond .lt off, 3)) (kt : x < 0 → Go l own cc nL R nm rt n0 mc ms Xf Qf  sl tgt lv st h) (kf : ¬ x < 0 → Go l own cc nL R nm rt n0 mc ms Xf Qf  sl (pc + 3) lv st h) : Go l own cc nL R nm rt n0 mc ms Xf Qf  sl pc lv (.int x :: st) h := by
  intro p e s m args below meth c D cy zb Q H locs ls C E hP hS hn hl
  exact lv_if_lt C.1 C.2.1 hd ht (fun q => kt q p e s m args below meth c D cy zb Q H locs ls C E hP hS hn hl) (fun q => kf q p e s m args below meth c D cy zb Q H locs ls C E hP hS hn hl)
theorem go_icmp_lt {x y : Int32} {off : Int} {tgt : Nat} (ht : (pc : Int) + off = (tgt : Int)) (hd : decode cc pc = .ok (.if_icmp .lt off, 3)) (kt : x < y → Go l own cc nL R nm rt n0 mc ms Xf Qf  sl tgt lv st h) (kf : ¬ x < y → Go l own cc nL R nm rt n0 mc ms Xf Qf  sl (pc + 3) lv st h) : Go l own cc nL R nm rt n0 mc ms Xf Qf  sl pc lv (.int y :: .int x :: st) h := by
  intro p e s m args below meth c D cy zb Q H locs ls C E hP hS hn hl
  exact lv_icmp_lt C.1 C.2.1 hd ht (fun q => kt q p e s m args below meth c D cy zb Q H locs ls C E hP hS hn hl) (fun q => kf q p e s m args below meth c D cy zb Q H locs ls C E hP hS hn hl)
theorem go_if_ge {x : Int32} {off : Int} {tgt : Nat} (ht : (pc : Int) + off = (tgt : Int)) (hd : decode cc pc = .ok (.ifCond .ge off, 3)) (kt : 0 ≤ x → Go l own cc nL R nm rt n0 mc ms Xf Qf  sl tgt lv st h) (kf : ¬ 0 ≤ x → Go l own cc nL R nm rt n0 mc ms Xf Qf  sl (pc + 3) lv st h) : Go l own cc nL R nm rt n0 mc ms Xf Qf  sl pc lv (.int x :: st) h := by
  intro p e s m args below meth c D cy zb Q H locs ls C E hP hS hn hl
  exact lv_if_ge C.1 C.2.1 hd ht (fun q => kt q p e s m args below meth c D cy zb Q H locs ls C E hP hS hn hl) (fun q => kf q p e s m args below meth c D cy zb Q H locs ls C E hP hS hn hl)
theorem go_icmp_ge {x y : Int32} {off : Int} {tgt : Nat} (ht : (pc : Int) + off = (tgt : Int)) (hd : decode cc pc = .ok (.if_icmp .ge off, 3)) (kt : y ≤ x → Go l own cc nL R nm rt n0 mc ms Xf Qf  sl tgt lv st h) (kf : ¬ y ≤ x → Go l own cc nL R nm rt n0 mc ms Xf Qf  sl (pc + 3) lv st h) : Go l own cc nL R nm rt n0 mc ms Xf Qf  sl pc lv (.int y :: .int x :: st) h := by
  intro p e s m args below meth c D cy zb Q H locs ls C E hP hS hn hl
  exact lv_icmp_ge C.1 C.2.1 hd ht (fun q => kt q p e s m args below meth c D cy zb Q H locs ls C E hP hS hn hl) (fun q => kf q p e s m args below meth c D cy zb Q H locs ls C E hP hS hn hl)
theorem go_if_gt {x : Int32} {off : Int} {tgt : Nat} (ht : (pc : Int) + off = (tgt : Int)) (hd : decode cc pc = .ok (.ifCond .gt off, 3)) (kt : 0 < x → Go l own cc nL R nm rt n0 mc ms Xf Qf  sl tgt lv st h) (kf : ¬ 0 < x → Go l own cc nL R nm rt n0 mc ms Xf Qf  sl (pc + 3) lv st h) : Go l own cc nL R nm rt n0 mc ms Xf Qf  sl pc lv (.int x :: st) h := by
  intro p e s m args below meth c D cy zb Q H locs ls C E hP hS hn hl
  exact lv_if_gt C.1 C.2.1 hd ht (fun q => kt q p e s m args below meth c D cy zb Q H locs ls C E hP hS hn hl) (fun q => kf q p e s m args below meth c D cy zb Q H locs ls C E hP hS hn hl)
theorem go_icmp_gt {x y : Int32} {off : Int} {tgt : Nat} (ht : (pc : Int) + off = (tgt : Int)) (hd : decode cc pc = .ok (.if_icmp .gt off, 3)) (kt : y < x → Go l own cc nL R nm rt n0 mc ms Xf Qf  sl tgt lv st h) (kf : ¬ y < x → Go l own cc nL R nm rt n0 mc ms Xf Qf  sl (pc + 3) lv st h) : Go l own cc nL R nm rt n0 mc ms Xf Qf  sl pc lv (.int y :: .int x :: st) h := by
  intro p e s m args below meth c D cy zb Q H locs ls C E hP hS hn hl
  exact lv_icmp_gt C.1 C.2.1 hd ht (fun q => kt q p e s m args below meth c D cy zb Q H locs ls C E hP hS hn hl) (fun q => kf q p e s m args below meth c D cy zb Q H locs ls C E hP hS hn hl)
theorem go_if_le {x : Int32} {off : Int} {tgt : Nat} (ht : (pc : Int) + off = (tgt : Int)) (hd : decode cc pc = .ok (.ifCond .le off, 3)) (kt : x ≤ 0 → Go l own cc nL R nm rt n0 mc ms Xf Qf  sl tgt lv st h) (kf : ¬ x ≤ 0 → Go l own cc nL R nm rt n0 mc ms Xf Qf  sl (pc + 3) lv st h) : Go l own cc nL R nm rt n0 mc ms Xf Qf  sl pc lv (.int x :: st) h := by
  intro p e s m args below meth c D cy zb Q H locs ls C E hP hS hn hl
  exact lv_if_le C.1 C.2.1 hd ht (fun q => kt q p e s m args below meth c D cy zb Q H locs ls C E hP hS hn hl) (fun q => kf q p e s m args below meth c D cy zb Q H locs ls C E hP hS hn hl)
theorem go_icmp_le {x y : Int32} {off : Int} {tgt : Nat} (ht : (pc : Int) + off = (tgt : Int)) (hd : decode cc pc = .ok (.if_icmp .le off, 3)) (kt : x ≤ y → Go l own cc nL R nm rt n0 mc ms Xf Qf  sl tgt lv st h) (kf : ¬ x ≤ y → Go l own cc nL R nm rt n0 mc ms Xf Qf  sl (pc + 3) lv st h) : Go l own cc nL R nm rt n0 mc ms Xf Qf  sl pc lv (.int y :: .int x :: st) h := by
  intro p e s m args below meth c D cy zb Q H locs ls C E hP hS hn hl
  exact lv_icmp_le C.1 C.2.1 hd ht (fun q => kt q p e s m args below meth c D cy zb Q H locs ls C E hP hS hn hl) (fun q => kf q p e s m args below meth c D cy zb Q H locs ls C E hP hS hn hl)
theorem go_tableIn {dflt lo hi : Int} {offs : Array Int} {len : Nat} {x : Int32} {off : Int} {tgt : Nat} (h1 : ¬ x.toInt < lo) (h2 : ¬ hi < x.toInt) (ho : offs[(x.toInt - lo).toNat]? = some off) (ht : (pc : Int) + off = (tgt : Int)) (hd : decode cc pc = .ok (.tableswitch dflt lo hi offs, len)) (k : Go l own cc nL R nm rt n0 mc ms Xf Qf  sl tgt lv st h) : Go l own cc nL R nm rt n0 mc ms Xf Qf  sl pc lv (.int x :: st) h := by
  intro p e s m args below meth c D cy zb Q H locs ls C E hP hS hn hl
  exact lv_tableIn C.1 C.2.1 hd h1 h2 ho ht (k p e s m args below meth c D cy zb Q H locs ls C E hP hS hn hl)
theorem go_tableOut {dflt lo hi : Int} {offs : Array Int} {len : Nat} {x : Int32} {tgt : Nat} (hx : x.toInt < lo ∨ hi < x.toInt) (ht : (pc : Int) + dflt = (tgt : Int)) (hd : decode cc pc = .ok (.tableswitch dflt lo hi offs, len)) (k : Go l own cc nL R nm rt n0 mc ms Xf Qf  sl tgt lv st h) : Go l own cc nL R nm rt n0 mc ms Xf Qf  sl pc lv (.int x :: st) h := by
  intro p e s m args below meth c D cy zb Q H locs ls C E hP hS hn hl
  exact lv_tableOut C.1 C.2.1 hd hx ht (k p e s m args below meth c D cy zb Q H locs ls C E hP hS hn hl)
theorem go_lookup {dflt : Int} {ps : Array (Int × Int)} {len : Nat} {x : Int32} {off : Int} {tgt : Nat} (hp : (ps.toList.zip (ps.toList.drop 1)).all (fun (a, next) => a.1 < next.1) = true) (ho : Op.lookupswitch.offset ps.toList dflt x.toInt = off) (ht : (pc : Int) + off = (tgt : Int)) (hd : decode cc pc = .ok (.lookupswitch dflt ps, len)) (k : Go l own cc nL R nm rt n0 mc ms Xf Qf  sl tgt lv st h) : Go l own cc nL R nm rt n0 mc ms Xf Qf  sl pc lv (.int x :: st) h := by
  intro p e s m args below meth c D cy zb Q H locs ls C E hP hS hn hl
  exact lv_lookup C.1 C.2.1 hd hp ho ht (k p e s m args below meth c D cy zb Q H locs ls C E hP hS hn hl)
theorem go_dup {v : Value} (hv : v.category = 1) (hd : decode cc pc = .ok (.dup, 1)) (k : Go l own cc nL R nm rt n0 mc ms Xf Qf  sl (pc + 1) lv (v :: v :: st) h) : Go l own cc nL R nm rt n0 mc ms Xf Qf  sl pc lv (v :: st) h := by
  intro p e s m args below meth c D cy zb Q H locs ls C E hP hS hn hl
  exact lv_dup C.1 C.2.1 hd (by rw [gv_cat]; exact hv) (k p e s m args below meth c D cy zb Q H locs ls C E hP hS hn hl)
theorem go_pop {v : Value} (hv : v.category = 1) (hd : decode cc pc = .ok (.pop, 1)) (k : Go l own cc nL R nm rt n0 mc ms Xf Qf  sl (pc + 1) lv st h) : Go l own cc nL R nm rt n0 mc ms Xf Qf  sl pc lv (v :: st) h := by
  intro p e s m args below meth c D cy zb Q H locs ls C E hP hS hn hl
  exact lv_pop C.1 C.2.1 hd (by rw [gv_cat]; exact hv) (k p e s m args below meth c D cy zb Q H locs ls C E hP hS hn hl)
theorem go_dup2 {v w : Value} (hv : v.category = 1) (hw : w.category = 1) (hd : decode cc pc = .ok (.dup2, 1)) (k : Go l own cc nL R nm rt n0 mc ms Xf Qf  sl (pc + 1) lv (v :: w :: v :: w :: st) h) : Go l own cc nL R nm rt n0 mc ms Xf Qf  sl pc lv (v :: w :: st) h := by
  intro p e s m args below meth c D cy zb Q H locs ls C E hP hS hn hl
  exact lv_dup2_11 C.1 C.2.1 hd (by rw [gv_cat]; exact hv) (by rw [gv_cat]; exact hw) (k p e s m args below meth c D cy zb Q H locs ls C E hP hS hn hl)
theorem go_lv {lv2 : List (Nat × Value)} (hs : lv2.map (fun q => g_lv lv q.1) = lv2.map (fun q => some q.2)) (k : Go l own cc nL R nm rt n0 mc ms Xf Qf  sl pc lv2 st h) : Go l own cc nL R nm rt n0 mc ms Xf Qf  sl pc lv st h := by
  intro p e s m args below meth c D cy zb Q H locs ls C E hP hS hn hl
  exact k p e s m args below meth c D cy zb Q H locs ls C E hP hS hn (g_lv_sub hl hs)
theorem g_fv_at {cy : Nat → ClassId} {zb : Nat × Nat} {h : HP} {c ci len k : Nat} (hc : h.1[c]? = some (ci, len)) (hci : ci < 9) (hk : k < len) : (g_ws cy zb h)[c]? = some (zb.1 + c, .inr (ci, (List.range len).map (fun j => g_fv zb h c j (g_ty ci j)))) ∧ ((List.range len).map (fun j => g_fv zb h c j (g_ty ci j)))[k]? = some (g_fv zb h c k (g_ty ci k)) := by
  refine ⟨?_, ?_⟩
  · rw [g_ws_get hc]; simp [g_cell, hci]
  · simp [hk]
theorem go_get {c ci len i idx : Nat} {v : Value} (hf : FL own idx ci i) (hc : h.1[c]? = some (ci, len)) (hi : i < len) (hv : ∀ zb, g_fv zb h c i (g_ty ci i) = gv zb v) (hd : decode cc pc = .ok (.getfield idx, 3)) (k : Go l own cc nL R nm rt n0 mc ms Xf Qf  sl (pc + 3) lv (v :: st) h) : Go l own cc nL R nm rt n0 mc ms Xf Qf  sl pc lv (.ref c :: st) h := by
  intro p e s m args below meth c2 D cy zb Q H locs ls C E hP hS hn hl
  have K := k p e s m args below meth c2 D cy zb Q H locs ls C E hP hS hn hl
  obtain ⟨Cn, T, N, h1, h2, h3, h4⟩ := hf
  obtain ⟨g1, g2, g3⟩ := g_in ci Cn T N h1
  have hci : ci < 9 := (List.getElem?_eq_some_iff.mp h1).1
  obtain ⟨a1, a2⟩ := g_fv_at (cy := cy) (zb := zb) hc hci hi
  rw [hv zb] at a2
  rcases h4 with h4 | ⟨host, h4⟩
  · exact va_get (ref := Cn) C.1 C.2.1 C.2.2.2.2.1 g1 C.2.2.2.1 C.2.2.2.2.2.2.1 hP c a1 h1 i h2 (C.2.2.2.2.1 _ h4) (fun x hx => by rw [h3] at hx; exact hx) a2 hd K
  · exact va_getN (ref := Cn) C.1 C.2.1 C.2.2.2.2.1 g1 C.2.2.2.1 C.2.2.2.2.2.2.1 hP c a1 h1 i h2 (va_Nw.use rfl (C.2.2.2.2.2.1 _ h4)) (fun x hx => by rw [h3] at hx; exact hx) a2 hd K
theorem go_getI {c ci len i idx : Nat} (hf : FL own idx ci i) (hc : h.1[c]? = some (ci, len)) (hi : i < len) (hty : g_kind (g_ty ci i) = 0) (hd : decode cc pc = .ok (.getfield idx, 3)) (k : Go l own cc nL R nm rt n0 mc ms Xf Qf  sl (pc + 3) lv (.int (h.2.1 c i) :: st) h) : Go l own cc nL R nm rt n0 mc ms Xf Qf  sl pc lv (.ref c :: st) h :=
  go_get hf hc hi (fun zb => by rw [g_fv, if_pos hty]; rfl) hd k
theorem go_getL {c ci len i idx : Nat} (hf : FL own idx ci i) (hc : h.1[c]? = some (ci, len)) (hi : i < len) (hty : g_kind (g_ty ci i) = 1) (hd : decode cc pc = .ok (.getfield idx, 3)) (k : Go l own cc nL R nm rt n0 mc ms Xf Qf  sl (pc + 3) lv (.long (h.2.2.1 c i) :: st) h) : Go l own cc nL R nm rt n0 mc ms Xf Qf  sl pc lv (.ref c :: st) h :=
  go_get hf hc hi (fun zb => by rw [g_fv, if_neg (by rw [hty]; decide), if_pos hty]; rfl) hd k
theorem go_getR {c ci len i idx : Nat} {v : Value} (hf : FL own idx ci i) (hc : h.1[c]? = some (ci, len)) (hi : i < len) (hty : g_kind (g_ty ci i) = 2) (hv : h.2.2.2 c i = v) (hd : decode cc pc = .ok (.getfield idx, 3)) (k : Go l own cc nL R nm rt n0 mc ms Xf Qf  sl (pc + 3) lv (v :: st) h) : Go l own cc nL R nm rt n0 mc ms Xf Qf  sl pc lv (.ref c :: st) h :=
  go_get hf hc hi (fun zb => by rw [g_fv, if_neg (by rw [hty]; decide), if_neg (by rw [hty]; decide), hv]) hd k
theorem go_putI {c ci len i idx : Nat} {x : Int32} (hf : FP own nm idx ci i) (hc : h.1[c]? = some (ci, len)) (hi : i < len) (hty : g_kind (g_ty ci i) = 0) (hna : ∀ zb, narrow (g_ty ci i) (gv zb (.int x)) = gv zb (.int x)) (hfi : ∀ zb, fits (g_ty ci i) (gv zb (.int x)) = true) (hd : decode cc pc = .ok (.putfield idx, 3)) (k : Go l own cc nL R nm rt n0 mc ms Xf Qf  sl (pc + 3) lv st (hI h c i x)) : Go l own cc nL R nm rt n0 mc ms Xf Qf  sl pc lv (.int x :: .ref c :: st) h := by
  intro p e s m args below meth c2 D cy zb Q H locs ls C E hP hS hn hl
  obtain ⟨Cn, T, N, h1, h2, h3, h4⟩ := hf
  obtain ⟨g1, g2, g3⟩ := g_in ci Cn T N h1
  have hci : ci < 9 := (List.getElem?_eq_some_iff.mp h1).1
  obtain ⟨a1, a2⟩ := g_fv_at (cy := cy) (zb := zb) hc hci hi
  have hset : (g_ws cy zb h).set c (zb.1 + c, .inr (ci, ((List.range len).map (fun j => g_fv zb h c j (g_ty ci j))).set i (gv zb (.int x)))) = g_ws cy zb (hI h c i x) := g_ws_set rfl hc (fun c' sh' hne => g_cell_I hne) (g_put_I hci hty)
  have hle : i < ((List.range len).map (fun j => g_fv zb h c j (g_ty ci j))).length := by simpa using hi
  have K : ∀ (H1 : Heap) (locs1 : List Loc), va_P D vwCl ((g_ws cy zb h).set c (zb.1 + c, .inr (ci, ((List.range len).map (fun j => g_fv zb h c j (g_ty ci j))).set i (gv zb (.int x))))) H1 → va_D (fun q => zb.1 ≤ q) ((g_ws cy zb h).set c (zb.1 + c, .inr (ci, ((List.range len).map (fun j => g_fv zb h c j (g_ty ci j))).set i (gv zb (.int x))))) → va_S (fun q => zb.1 ≤ q) s.heap H1 locs1 → W p l e R s m args below meth c2 H1 locs1 (h.1.length - n0) sl Q (F0 m (pc + 3) ls (st.map (gv zb))) := by
    intro H1 locs1 hP1 _ hS1
    rw [hset] at hP1
    exact k p e s m args below meth c2 D cy zb Q H1 locs1 ls C E hP1 hS1 hn hl
  rcases h4 with ⟨h4, h5⟩ | ⟨h4, h5, h6, h7⟩ | ⟨host, h4, h5⟩
  · exact va_put (ref := Cn) C.1 C.2.1 C.2.2.2.2.1 g1 (g_ty ci) g2 g3 C.2.2.2.1 C.2.2.2.2.2.2.1 hP (g_D cy zb h) hS c a1 h1 i h2 (C.2.2.2.2.1 _ h4) (fun x hx => by rw [h3] at hx; exact hx) h5 (g2 i h2) (hna zb) (hfi zb) hle hd K
  · exact va_putF (ref := Cn) C.1 C.2.1 C.2.2.2.2.1 g1 (g_ty ci) g2 g3 C.2.2.2.1 C.2.2.2.2.2.2.1 hP (g_D cy zb h) hS c a1 h1 i h2 (C.2.2.2.2.1 _ h4) (fun x hx => by rw [h3] at hx; exact hx) h5 (C.2.2.2.2.2.2.2.2.1.trans h7) h6 (g2 i h2) (hna zb) (hfi zb) hle hd K
  · exact va_putN (ref := Cn) C.1 C.2.1 C.2.2.2.2.1 g1 (g_ty ci) g2 g3 C.2.2.2.1 C.2.2.2.2.2.2.1 hP (g_D cy zb h) hS c a1 h1 i h2 (va_Nw.use rfl (C.2.2.2.2.2.1 _ h4)) (fun x hx => by rw [h3] at hx; exact hx) h5 (g2 i h2) (hna zb) (hfi zb) hle hd K
theorem go_putL {c ci len i idx : Nat} {x : Int64} (hf : FP own nm idx ci i) (hc : h.1[c]? = some (ci, len)) (hi : i < len) (hty : g_kind (g_ty ci i) = 1) (hna : ∀ zb, narrow (g_ty ci i) (gv zb (.long x)) = gv zb (.long x)) (hfi : ∀ zb, fits (g_ty ci i) (gv zb (.long x)) = true) (hd : decode cc pc = .ok (.putfield idx, 3)) (k : Go l own cc nL R nm rt n0 mc ms Xf Qf  sl (pc + 3) lv st (hL h c i x)) : Go l own cc nL R nm rt n0 mc ms Xf Qf  sl pc lv (.long x :: .ref c :: st) h := by
  intro p e s m args below meth c2 D cy zb Q H locs ls C E hP hS hn hl
  obtain ⟨Cn, T, N, h1, h2, h3, h4⟩ := hf
  obtain ⟨g1, g2, g3⟩ := g_in ci Cn T N h1
  have hci : ci < 9 := (List.getElem?_eq_some_iff.mp h1).1
  obtain ⟨a1, a2⟩ := g_fv_at (cy := cy) (zb := zb) hc hci hi
  have hset : (g_ws cy zb h).set c (zb.1 + c, .inr (ci, ((List.range len).map (fun j => g_fv zb h c j (g_ty ci j))).set i (gv zb (.long x)))) = g_ws cy zb (hL h c i x) := g_ws_set rfl hc (fun c' sh' hne => g_cell_L hne) (g_put_L hci hty)
  have hle : i < ((List.range len).map (fun j => g_fv zb h c j (g_ty ci j))).length := by simpa using hi
  have K : ∀ (H1 : Heap) (locs1 : List Loc), va_P D vwCl ((g_ws cy zb h).set c (zb.1 + c, .inr (ci, ((List.range len).map (fun j => g_fv zb h c j (g_ty ci j))).set i (gv zb (.long x))))) H1 → va_D (fun q => zb.1 ≤ q) ((g_ws cy zb h).set c (zb.1 + c, .inr (ci, ((List.range len).map (fun j => g_fv zb h c j (g_ty ci j))).set i (gv zb (.long x))))) → va_S (fun q => zb.1 ≤ q) s.heap H1 locs1 → W p l e R s m args below meth c2 H1 locs1 (h.1.length - n0) sl Q (F0 m (pc + 3) ls (st.map (gv zb))) := by
    intro H1 locs1 hP1 _ hS1
    rw [hset] at hP1
    exact k p e s m args below meth c2 D cy zb Q H1 locs1 ls C E hP1 hS1 hn hl
  rcases h4 with ⟨h4, h5⟩ | ⟨h4, h5, h6, h7⟩ | ⟨host, h4, h5⟩
  · exact va_put (ref := Cn) C.1 C.2.1 C.2.2.2.2.1 g1 (g_ty ci) g2 g3 C.2.2.2.1 C.2.2.2.2.2.2.1 hP (g_D cy zb h) hS c a1 h1 i h2 (C.2.2.2.2.1 _ h4) (fun x hx => by rw [h3] at hx; exact hx) h5 (g2 i h2) (hna zb) (hfi zb) hle hd K
  · exact va_putF (ref := Cn) C.1 C.2.1 C.2.2.2.2.1 g1 (g_ty ci) g2 g3 C.2.2.2.1 C.2.2.2.2.2.2.1 hP (g_D cy zb h) hS c a1 h1 i h2 (C.2.2.2.2.1 _ h4) (fun x hx => by rw [h3] at hx; exact hx) h5 (C.2.2.2.2.2.2.2.2.1.trans h7) h6 (g2 i h2) (hna zb) (hfi zb) hle hd K
  · exact va_putN (ref := Cn) C.1 C.2.1 C.2.2.2.2.1 g1 (g_ty ci) g2 g3 C.2.2.2.1 C.2.2.2.2.2.2.1 hP (g_D cy zb h) hS c a1 h1 i h2 (va_Nw.use rfl (C.2.2.2.2.2.1 _ h4)) (fun x hx => by rw [h3] at hx; exact hx) h5 (g2 i h2) (hna zb) (hfi zb) hle hd K
theorem go_putR {c ci len i idx : Nat} {x : Value} (hf : FP own nm idx ci i) (hc : h.1[c]? = some (ci, len)) (hi : i < len) (hty : g_kind (g_ty ci i) = 2) (hna : ∀ zb, narrow (g_ty ci i) (gv zb x) = gv zb x) (hfi : ∀ zb, fits (g_ty ci i) (gv zb x) = true) (hd : decode cc pc = .ok (.putfield idx, 3)) (k : Go l own cc nL R nm rt n0 mc ms Xf Qf  sl (pc + 3) lv st (hR h c i x)) : Go l own cc nL R nm rt n0 mc ms Xf Qf  sl pc lv (x :: .ref c :: st) h := by
  intro p e s m args below meth c2 D cy zb Q H locs ls C E hP hS hn hl
  obtain ⟨Cn, T, N, h1, h2, h3, h4⟩ := hf
  obtain ⟨g1, g2, g3⟩ := g_in ci Cn T N h1
  have hci : ci < 9 := (List.getElem?_eq_some_iff.mp h1).1
  obtain ⟨a1, a2⟩ := g_fv_at (cy := cy) (zb := zb) hc hci hi
  have hset : (g_ws cy zb h).set c (zb.1 + c, .inr (ci, ((List.range len).map (fun j => g_fv zb h c j (g_ty ci j))).set i (gv zb x))) = g_ws cy zb (hR h c i x) := g_ws_set rfl hc (fun c' sh' hne => g_cell_R hne) (g_put_R hci hty)
  have hle : i < ((List.range len).map (fun j => g_fv zb h c j (g_ty ci j))).length := by simpa using hi
  have K : ∀ (H1 : Heap) (locs1 : List Loc), va_P D vwCl ((g_ws cy zb h).set c (zb.1 + c, .inr (ci, ((List.range len).map (fun j => g_fv zb h c j (g_ty ci j))).set i (gv zb x)))) H1 → va_D (fun q => zb.1 ≤ q) ((g_ws cy zb h).set c (zb.1 + c, .inr (ci, ((List.range len).map (fun j => g_fv zb h c j (g_ty ci j))).set i (gv zb x)))) → va_S (fun q => zb.1 ≤ q) s.heap H1 locs1 → W p l e R s m args below meth c2 H1 locs1 (h.1.length - n0) sl Q (F0 m (pc + 3) ls (st.map (gv zb))) := by
    intro H1 locs1 hP1 _ hS1
    rw [hset] at hP1
    exact k p e s m args below meth c2 D cy zb Q H1 locs1 ls C E hP1 hS1 hn hl
  rcases h4 with ⟨h4, h5⟩ | ⟨h4, h5, h6, h7⟩ | ⟨host, h4, h5⟩
  · exact va_put (ref := Cn) C.1 C.2.1 C.2.2.2.2.1 g1 (g_ty ci) g2 g3 C.2.2.2.1 C.2.2.2.2.2.2.1 hP (g_D cy zb h) hS c a1 h1 i h2 (C.2.2.2.2.1 _ h4) (fun x hx => by rw [h3] at hx; exact hx) h5 (g2 i h2) (hna zb) (hfi zb) hle hd K
  · exact va_putF (ref := Cn) C.1 C.2.1 C.2.2.2.2.1 g1 (g_ty ci) g2 g3 C.2.2.2.1 C.2.2.2.2.2.2.1 hP (g_D cy zb h) hS c a1 h1 i h2 (C.2.2.2.2.1 _ h4) (fun x hx => by rw [h3] at hx; exact hx) h5 (C.2.2.2.2.2.2.2.2.1.trans h7) h6 (g2 i h2) (hna zb) (hfi zb) hle hd K
  · exact va_putN (ref := Cn) C.1 C.2.1 C.2.2.2.2.1 g1 (g_ty ci) g2 g3 C.2.2.2.1 C.2.2.2.2.2.2.1 hP (g_D cy zb h) hS c a1 h1 i h2 (va_Nw.use rfl (C.2.2.2.2.2.1 _ h4)) (fun x hx => by rw [h3] at hx; exact hx) h5 (g2 i h2) (hna zb) (hfi zb) hle hd K
theorem go_iald {c len : Nat} {i : Int32} (hc : h.1[c]? = some (10, len)) (hi : vp_in i len) (hd : decode cc pc = .ok (.iaload, 1)) (k : Go l own cc nL R nm rt n0 mc ms Xf Qf  sl (pc + 1) lv (.int (h.2.1 c i.toNatClampNeg) :: st) h) : Go l own cc nL R nm rt n0 mc ms Xf Qf  sl pc lv (.int i :: .ref c :: st) h := by
  intro p e s m args below meth c2 D cy zb Q H locs ls C E hP hS hn hl
  have a1 := g_ws_get (cy := cy) (zb := zb) hc
  exact va_iald C.1 C.2.1 C.2.2.2.2.2.2.1 hP c 1 a1 rfl hi hd (k p e s m args below meth c2 D cy zb Q H locs ls C E hP hS hn hl)
theorem go_iast {c len : Nat} {i : Int32} {x : Int32} (hc : h.1[c]? = some (10, len)) (hi : vp_in i len) (hd : decode cc pc = .ok (.iastore, 1)) (k : Go l own cc nL R nm rt n0 mc ms Xf Qf  sl (pc + 1) lv st (hI h c i.toNatClampNeg x)) : Go l own cc nL R nm rt n0 mc ms Xf Qf  sl pc lv (.int x :: .int i :: .ref c :: st) h := by
  intro p e s m args below meth c2 D cy zb Q H locs ls C E hP hS hn hl
  have a1 := g_ws_get (cy := cy) (zb := zb) hc
  refine va_iast C.1 C.2.1 C.2.2.2.2.2.2.1 hP (g_D cy zb h) hS c 1 a1 rfl hi hd (fun H1 locs1 hP1 _ hS1 => ?_)
  have hs := g_ws_set (cy := cy) (zb := zb) (h := h) (h' := hI h c i.toNatClampNeg x) (e := .inl (cy 10, len, .inl (upd (h.2.1 c) i.toNatClampNeg x))) rfl hc (fun c' sh' hne => g_cell_I hne) (by
    simp only [g_cell, hI]
    first | rfl | (congr; funext b; simp [upd, vp_updL]) | (simp; funext b; simp [upd, vp_updL]))
  have hP2 : va_P D vwCl (g_ws cy zb (hI h c i.toNatClampNeg x)) H1 := by rw [← hs]; exact hP1
  exact k p e s m args below meth c2 D cy zb Q H1 locs1 ls C E hP2 hS1 hn hl
theorem go_bald {c len : Nat} {i : Int32} (hc : h.1[c]? = some (9, len)) (hi : vp_in i len) (hd : decode cc pc = .ok (.baload, 1)) (k : Go l own cc nL R nm rt n0 mc ms Xf Qf  sl (pc + 1) lv (.int (h.2.1 c i.toNatClampNeg) :: st) h) : Go l own cc nL R nm rt n0 mc ms Xf Qf  sl pc lv (.int i :: .ref c :: st) h := by
  intro p e s m args below meth c2 D cy zb Q H locs ls C E hP hS hn hl
  have a1 := g_ws_get (cy := cy) (zb := zb) hc
  exact va_bald C.1 C.2.1 C.2.2.2.2.2.2.1 hP c 0 a1 rfl hi hd (k p e s m args below meth c2 D cy zb Q H locs ls C E hP hS hn hl)
theorem go_bast {c len : Nat} {i : Int32} {x : Int32} (hc : h.1[c]? = some (9, len)) (hi : vp_in i len) (hd : decode cc pc = .ok (.bastore, 1)) (k : Go l own cc nL R nm rt n0 mc ms Xf Qf  sl (pc + 1) lv st (hI h c i.toNatClampNeg (vp_nar .byte x))) : Go l own cc nL R nm rt n0 mc ms Xf Qf  sl pc lv (.int x :: .int i :: .ref c :: st) h := by
  intro p e s m args below meth c2 D cy zb Q H locs ls C E hP hS hn hl
  have a1 := g_ws_get (cy := cy) (zb := zb) hc
  refine va_bast C.1 C.2.1 C.2.2.2.2.2.2.1 hP (g_D cy zb h) hS c 0 a1 rfl hi hd (fun H1 locs1 hP1 _ hS1 => ?_)
  have hs := g_ws_set (cy := cy) (zb := zb) (h := h) (h' := hI h c i.toNatClampNeg (vp_nar .byte x)) (e := .inl (cy 9, len, .inl (upd (h.2.1 c) i.toNatClampNeg (vp_nar .byte x)))) rfl hc (fun c' sh' hne => g_cell_I hne) (by
    simp only [g_cell, hI]
    first | rfl | (congr; funext b; simp [upd, vp_updL]) | (simp; funext b; simp [upd, vp_updL]))
  have hP2 : va_P D vwCl (g_ws cy zb (hI h c i.toNatClampNeg (vp_nar .byte x))) H1 := by rw [← hs]; exact hP1
  exact k p e s m args below meth c2 D cy zb Q H1 locs1 ls C E hP2 hS1 hn hl
theorem go_zald {c len : Nat} {i : Int32} (hc : h.1[c]? = some (12, len)) (hi : vp_in i len) (hd : decode cc pc = .ok (.baload, 1)) (k : Go l own cc nL R nm rt n0 mc ms Xf Qf  sl (pc + 1) lv (.int (h.2.1 c i.toNatClampNeg) :: st) h) : Go l own cc nL R nm rt n0 mc ms Xf Qf  sl pc lv (.int i :: .ref c :: st) h := by
  intro p e s m args below meth c2 D cy zb Q H locs ls C E hP hS hn hl
  have a1 := g_ws_get (cy := cy) (zb := zb) hc
  exact va_zald C.1 C.2.1 C.2.2.2.2.2.2.1 hP c 3 a1 rfl hi hd (k p e s m args below meth c2 D cy zb Q H locs ls C E hP hS hn hl)
theorem go_zast {c len : Nat} {i : Int32} {x : Int32} (hc : h.1[c]? = some (12, len)) (hi : vp_in i len) (hd : decode cc pc = .ok (.bastore, 1)) (k : Go l own cc nL R nm rt n0 mc ms Xf Qf  sl (pc + 1) lv st (hI h c i.toNatClampNeg (vp_nar .boolean x))) : Go l own cc nL R nm rt n0 mc ms Xf Qf  sl pc lv (.int x :: .int i :: .ref c :: st) h := by
  intro p e s m args below meth c2 D cy zb Q H locs ls C E hP hS hn hl
  have a1 := g_ws_get (cy := cy) (zb := zb) hc
  refine va_zast C.1 C.2.1 C.2.2.2.2.2.2.1 hP (g_D cy zb h) hS c 3 a1 rfl hi hd (fun H1 locs1 hP1 _ hS1 => ?_)
  have hs := g_ws_set (cy := cy) (zb := zb) (h := h) (h' := hI h c i.toNatClampNeg (vp_nar .boolean x)) (e := .inl (cy 12, len, .inl (upd (h.2.1 c) i.toNatClampNeg (vp_nar .boolean x)))) rfl hc (fun c' sh' hne => g_cell_I hne) (by
    simp only [g_cell, hI]
    first | rfl | (congr; funext b; simp [upd, vp_updL]) | (simp; funext b; simp [upd, vp_updL]))
  have hP2 : va_P D vwCl (g_ws cy zb (hI h c i.toNatClampNeg (vp_nar .boolean x))) H1 := by rw [← hs]; exact hP1
  exact k p e s m args below meth c2 D cy zb Q H1 locs1 ls C E hP2 hS1 hn hl
theorem go_lald {c len : Nat} {i : Int32} (hc : h.1[c]? = some (11, len)) (hi : vp_in i len) (hd : decode cc pc = .ok (.laload, 1)) (k : Go l own cc nL R nm rt n0 mc ms Xf Qf  sl (pc + 1) lv (.long (h.2.2.1 c i.toNatClampNeg) :: st) h) : Go l own cc nL R nm rt n0 mc ms Xf Qf  sl pc lv (.int i :: .ref c :: st) h := by
  intro p e s m args below meth c2 D cy zb Q H locs ls C E hP hS hn hl
  have a1 := g_ws_get (cy := cy) (zb := zb) hc
  exact va_lald C.1 C.2.1 C.2.2.2.2.2.2.1 hP c 2 a1 rfl hi hd (k p e s m args below meth c2 D cy zb Q H locs ls C E hP hS hn hl)
theorem go_last {c len : Nat} {i : Int32} {x : Int64} (hc : h.1[c]? = some (11, len)) (hi : vp_in i len) (hd : decode cc pc = .ok (.lastore, 1)) (k : Go l own cc nL R nm rt n0 mc ms Xf Qf  sl (pc + 1) lv st (hL h c i.toNatClampNeg x)) : Go l own cc nL R nm rt n0 mc ms Xf Qf  sl pc lv (.long x :: .int i :: .ref c :: st) h := by
  intro p e s m args below meth c2 D cy zb Q H locs ls C E hP hS hn hl
  have a1 := g_ws_get (cy := cy) (zb := zb) hc
  refine va_last C.1 C.2.1 C.2.2.2.2.2.2.1 hP (g_D cy zb h) hS c 2 a1 rfl hi hd (fun H1 locs1 hP1 _ hS1 => ?_)
  have hs := g_ws_set (cy := cy) (zb := zb) (h := h) (h' := hL h c i.toNatClampNeg x) (e := .inl (cy 11, len, .inr (.inl (vp_updL (h.2.2.1 c) i.toNatClampNeg x)))) rfl hc (fun c' sh' hne => g_cell_L hne) (by
    simp only [g_cell, hL]
    first | rfl | (congr; funext b; simp [upd, vp_updL]) | (simp; funext b; simp [upd, vp_updL]))
  have hP2 : va_P D vwCl (g_ws cy zb (hL h c i.toNatClampNeg x)) H1 := by rw [← hs]; exact hP1
  exact k p e s m args below meth c2 D cy zb Q H1 locs1 ls C E hP2 hS1 hn hl
theorem go_alen {c kd len : Nat} {v : Int32} (hc : h.1[c]? = some (kd, len)) (h9 : kd = 9 ∨ kd = 10 ∨ kd = 11 ∨ kd = 12) (hv : Int32.ofNat len = v) (hd : decode cc pc = .ok (.arraylength, 1)) (k : Go l own cc nL R nm rt n0 mc ms Xf Qf  sl (pc + 1) lv (.int v :: st) h) : Go l own cc nL R nm rt n0 mc ms Xf Qf  sl pc lv (.ref c :: st) h := by
  intro p e s m args below meth c2 D cy zb Q H locs ls C E hP hS hn hl
  have a1 := g_ws_get (cy := cy) (zb := zb) hc
  have K := k p e s m args below meth c2 D cy zb Q H locs ls C E hP hS hn hl
  rcases h9 with rfl | rfl | rfl | rfl
  · exact va_alen C.1 C.2.1 C.2.2.2.2.2.2.1 hP c 0 a1 rfl hv hd K
  · exact va_alen C.1 C.2.1 C.2.2.2.2.2.2.1 hP c 1 a1 rfl hv hd K
  · exact va_alen C.1 C.2.1 C.2.2.2.2.2.2.1 hP c 2 a1 rfl hv hd K
  · exact va_alen C.1 C.2.1 C.2.2.2.2.2.2.1 hP c 3 a1 rfl hv hd K
end GO
