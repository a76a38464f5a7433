/-! what a method does, as a function of the state: ints as integers, longs, and which code a reference names -/
abbrev ST : Type := (Nat → Nat → Int) × (Nat → Nat → Int64) × (Nat → Nat → Nat)
def rN : Value → Nat
  | .ref k => k
  | _ => 0
def st (h : HP) : ST := (fun c j => (h.2.1 c j).toInt, h.2.2.1, fun c j => rN (h.2.2.2 c j))
def sI (s : ST) (c j : Nat) (a : Int) : ST := (fun p q => if p = c ∧ q = j then a else s.1 p q, s.2.1, s.2.2)
def sL (s : ST) (c j : Nat) (a : Int64) : ST := (s.1, fun p q => if p = c ∧ q = j then a else s.2.1 p q, s.2.2)
def sR (s : ST) (c j k : Nat) : ST := (s.1, s.2.1, fun p q => if p = c ∧ q = j then k else s.2.2 p q)
def bd {α β : Type} (x : β) (K : β → α) : α := K x
def bd2 {α β γ : Type} (x : β × γ) (K : β → γ → α) : α := K x.1 x.2
theorem bd_e {α β : Type} {fin : α} {x y : β} {K : β → α} (h : fin = bd x K) (e : x = y) : fin = K y := by subst e; exact h
theorem bd2_e {α β γ : Type} {fin : α} {x : β × γ} {a : β} {b : γ} {K : β → γ → α} (h : fin = bd2 x K) (e : (a, b) = x) : fin = K a b := by subst e; exact h
theorem if_t {α : Type} {fin A B : α} {c : Prop} {_ : Decidable c} (h : fin = if c then A else B) (q : c) : fin = A := by rw [h, if_pos q]
theorem if_f {α : Type} {fin A B : α} {c : Prop} {_ : Decidable c} (h : fin = if c then A else B) (q : ¬ c) : fin = B := by rw [h, if_neg q]
theorem st_I {h h2 : HP} {c j : Nat} {x : Int32} {a : Int} (e : h2 = hI h c j x) (t : TI x a) : sI (st h) c j a = st h2 := by
  subst e
  unfold TI at t
  subst t
  refine Prod.ext (funext fun p => funext fun q => ?_) rfl
  show (if p = c ∧ q = j then x.toInt else (h.2.1 p q).toInt) = (if p = c ∧ q = j then x else h.2.1 p q).toInt
  split <;> rfl
theorem st_I2 {h h2 : HP} {c j c' j' : Nat} {x y : Int32} {a b : Int} (e : h2 = hI (hI h c j x) c' j' y) (t : TI x a) (u : TI y b) : sI (sI (st h) c j a) c' j' b = st h2 := by
  rw [st_I rfl t]
  exact st_I e u
theorem st_L {h h2 : HP} {c j : Nat} {x : Int64} (e : h2 = hL h c j x) : sL (st h) c j x = st h2 := by subst e; rfl
theorem st_R {h h2 : HP} {c j k : Nat} (e : h2 = hR h c j (.ref k)) : sR (st h) c j k = st h2 := by
  subst e
  refine Prod.ext rfl (Prod.ext rfl (funext fun p => funext fun q => ?_))
  show (if p = c ∧ q = j then k else rN (h.2.2.2 p q)) = rN (if p = c ∧ q = j then .ref k else h.2.2.2 p q)
  split <;> rfl
theorem st_c {h : HP} {c j k : Nat} (f : h.2.2.2 c j = .ref k) : (st h).2.2 c j = k := by show rN (h.2.2.2 c j) = k; rw [f]; rfl
theorem ti_of {x : Int32} {a : Int} (t : TI x a) : Int32.ofInt a = x := by unfold TI at t; rw [← t, Int32.ofInt_toInt]
def o_i2b (a : Int) : Int := ((Int32.ofInt a).toInt8.toInt32).toInt
theorem so_i2b {x v : Int32} {a : Int} (t : TI x a) (e : v = x.toInt8.toInt32) : o_i2b a = v.toInt := by unfold o_i2b; rw [ti_of t, e]
theorem st_B {h h2 : HP} {c j : Nat} {x : Int32} {a : Int} (e : h2 = hI h c j (vp_nar .byte x)) (t : TI x a) : sI (st h) c j (o_i2b a) = st h2 := st_I e (so_i2b t rfl).symm
def p_iadd (x y : Int32) : Int32 := x + y
def o_iadd (a b : Int) : Int := (p_iadd (Int32.ofInt a) (Int32.ofInt b)).toInt
theorem so_iadd {x y v : Int32} {a b : Int} (t : TI x a) (u : TI y b) (e : v = x + y) : o_iadd a b = v.toInt := by unfold o_iadd; rw [ti_of t, ti_of u, e]; rfl
def p_isub (x y : Int32) : Int32 := x - y
def o_isub (a b : Int) : Int := (p_isub (Int32.ofInt a) (Int32.ofInt b)).toInt
theorem so_isub {x y v : Int32} {a b : Int} (t : TI x a) (u : TI y b) (e : v = x - y) : o_isub a b = v.toInt := by unfold o_isub; rw [ti_of t, ti_of u, e]; rfl
def p_imul (x y : Int32) : Int32 := x * y
def o_imul (a b : Int) : Int := (p_imul (Int32.ofInt a) (Int32.ofInt b)).toInt
theorem so_imul {x y v : Int32} {a b : Int} (t : TI x a) (u : TI y b) (e : v = x * y) : o_imul a b = v.toInt := by unfold o_imul; rw [ti_of t, ti_of u, e]; rfl
def p_iand (x y : Int32) : Int32 := x &&& y
def o_iand (a b : Int) : Int := (p_iand (Int32.ofInt a) (Int32.ofInt b)).toInt
theorem so_iand {x y v : Int32} {a b : Int} (t : TI x a) (u : TI y b) (e : v = x &&& y) : o_iand a b = v.toInt := by unfold o_iand; rw [ti_of t, ti_of u, e]; rfl
def p_ior (x y : Int32) : Int32 := x ||| y
def o_ior (a b : Int) : Int := (p_ior (Int32.ofInt a) (Int32.ofInt b)).toInt
theorem so_ior {x y v : Int32} {a b : Int} (t : TI x a) (u : TI y b) (e : v = x ||| y) : o_ior a b = v.toInt := by unfold o_ior; rw [ti_of t, ti_of u, e]; rfl
def p_ishl (x y : Int32) : Int32 := x <<< (y &&& 31)
def o_ishl (a b : Int) : Int := (p_ishl (Int32.ofInt a) (Int32.ofInt b)).toInt
theorem so_ishl {x y v : Int32} {a b : Int} (t : TI x a) (u : TI y b) (e : v = x <<< (y &&& 31)) : o_ishl a b = v.toInt := by unfold o_ishl; rw [ti_of t, ti_of u, e]; rfl
def p_ishr (x y : Int32) : Int32 := x >>> (y &&& 31)
def o_ishr (a b : Int) : Int := (p_ishr (Int32.ofInt a) (Int32.ofInt b)).toInt
theorem so_ishr {x y v : Int32} {a b : Int} (t : TI x a) (u : TI y b) (e : v = x >>> (y &&& 31)) : o_ishr a b = v.toInt := by unfold o_ishr; rw [ti_of t, ti_of u, e]; rfl
def p_iushr (x y : Int32) : Int32 := (x.toUInt32 >>> (y.toUInt32 &&& Int32.toUInt32 31)).toInt32
def o_iushr (a b : Int) : Int := (p_iushr (Int32.ofInt a) (Int32.ofInt b)).toInt
theorem so_iushr {x y v : Int32} {a b : Int} (t : TI x a) (u : TI y b) (e : v = (x.toUInt32 >>> (y.toUInt32 &&& Int32.toUInt32 31)).toInt32) : o_iushr a b = v.toInt := by unfold o_iushr; rw [ti_of t, ti_of u, e]; rfl
def o_lsub (x y : Int64) : Int64 := x - y
theorem so_lsub {x y v : Int64} (e : v = x - y) : o_lsub x y = v := e.symm
def o_land (x y : Int64) : Int64 := x &&& y
theorem so_land {x y v : Int64} (e : v = x &&& y) : o_land x y = v := e.symm
def o_lor (x y : Int64) : Int64 := x ||| y
theorem so_lor {x y v : Int64} (e : v = x ||| y) : o_lor x y = v := e.symm
def o_lxor (x y : Int64) : Int64 := x ^^^ y
theorem so_lxor {x y v : Int64} (e : v = x ^^^ y) : o_lxor x y = v := e.symm
def p_lshl (x : Int64) (y : Int32) : Int64 := x <<< (y.toInt64 &&& 63)
def o_lshl (x : Int64) (b : Int) : Int64 := p_lshl x (Int32.ofInt b)
theorem so_lshl {x v : Int64} {y : Int32} {b : Int} (u : TI y b) (e : v = x <<< (y.toInt64 &&& 63)) : o_lshl x b = v := by unfold o_lshl; rw [ti_of u, e]; rfl
def p_lshr (x : Int64) (y : Int32) : Int64 := x >>> (y.toInt64 &&& 63)
def o_lshr (x : Int64) (b : Int) : Int64 := p_lshr x (Int32.ofInt b)
theorem so_lshr {x v : Int64} {y : Int32} {b : Int} (u : TI y b) (e : v = x >>> (y.toInt64 &&& 63)) : o_lshr x b = v := by unfold o_lshr; rw [ti_of u, e]; rfl
def p_lushr (x : Int64) (y : Int32) : Int64 := (x.toUInt64 >>> (y.toInt64.toUInt64 &&& Int64.toUInt64 63)).toInt64
def o_lushr (x : Int64) (b : Int) : Int64 := p_lushr x (Int32.ofInt b)
theorem so_lushr {x v : Int64} {y : Int32} {b : Int} (u : TI y b) (e : v = (x.toUInt64 >>> (y.toInt64.toUInt64 &&& Int64.toUInt64 63)).toInt64) : o_lushr x b = v := by unfold o_lushr; rw [ti_of u, e]; rfl
def o_i2l (a : Int) : Int64 := (Int32.ofInt a).toInt64
theorem so_i2l {x : Int32} {v : Int64} {a : Int} (t : TI x a) (e : v = x.toInt64) : o_i2l a = v := by unfold o_i2l; rw [ti_of t, e]
def o_lcmp (x y : Int64) : Int := (lg_cmp x y).toInt
theorem so_lcmp {x y : Int64} {v : Int32} (e : v = lg_cmp x y) : o_lcmp x y = v.toInt := by rw [e]; rfl
section GZ
variable {l : Launch} {own : String} {cc : ByteArray} {nL : Nat} {R : Room} {nm : String} {rt : Option FieldType} {n0 mc ms : Nat} {Xf : Nat → State → Prop} {Qf : Option Value → HP → Prop} {sl pc : Nat} {lv : List (Nat × Value)} {st : List Value} {h : HP} {P : PP}
theorem gx_getL {c ci len i idx : Nat} (hv : Iv P h) (hf : FL own idx ci i) (hc : sh0[c]? = some (ci, len)) (hi2 : i < len) (hty : g_kind (g_ty ci i) = 1) (hd : decode cc pc = .ok (.getfield idx, 3)) (k : ∀ v : Int64, v = h.2.2.1 c i → Go l own cc nL R nm rt n0 mc ms Xf Qf sl (pc + 3) lv (.long v :: st) h) : Go l own cc nL R nm rt n0 mc ms Xf Qf sl pc lv (.ref c :: st) h :=
  go_getL hf (hv.sh hc) hi2 hty hd (k _ rfl)
theorem gx_i2b {x : Int32} (hd : decode cc pc = .ok (.i2b, 1)) (k : ∀ v : Int32, v = x.toInt8.toInt32 → Go l own cc nL R nm rt n0 mc ms Xf Qf sl (pc + 1) lv (.int v :: st) h) : Go l own cc nL R nm rt n0 mc ms Xf Qf sl pc lv (.int x :: st) h := go_i2b hd (k _ rfl)
theorem gx_imul {x y : Int32} (hd : decode cc pc = .ok (.imul, 1)) (k : ∀ v : Int32, v = x * y → Go l own cc nL R nm rt n0 mc ms Xf Qf sl (pc + 1) lv (.int v :: st) h) : Go l own cc nL R nm rt n0 mc ms Xf Qf sl pc lv (.int y :: .int x :: st) h := go_imul hd (k _ rfl)
end GZ
/-- what a method leaves as it was -/
def FX (K : Nat → Nat → Prop) (h g : HP) : Prop := ∀ c j, K c j → g.2.1 c j = h.2.1 c j ∧ g.2.2.1 c j = h.2.2.1 c j ∧ g.2.2.2 c j = h.2.2.2 c j
theorem FX.rfl {K : Nat → Nat → Prop} {h : HP} : FX K h h := fun _ _ _ => ⟨_root_.rfl, _root_.rfl, _root_.rfl⟩
theorem FX.tr {K : Nat → Nat → Prop} {h g k : HP} (a : FX K h g) (b : FX K g k) : FX K h k := fun c j z => ⟨(b c j z).1.trans (a c j z).1, (b c j z).2.1.trans (a c j z).2.1, (b c j z).2.2.trans (a c j z).2.2⟩
theorem FX.mono {K L : Nat → Nat → Prop} {h g : HP} (q : ∀ c j, K c j → L c j) (a : FX L h g) : FX K h g := fun c j z => a c j (q c j z)
theorem FX.pI {K : Nat → Nat → Prop} {h g k : HP} {c j : Nat} {x : Int32} (a : FX K h g) (e : k = hI g c j x) (n : ¬ K c j) : FX K h k := by
  subst e
  intro p q z
  refine ⟨?_, (a p q z).2⟩
  show (if p = c ∧ q = j then x else g.2.1 p q) = _
  rw [if_neg (fun w => n (by rw [← w.1, ← w.2]; exact z))]
  exact (a p q z).1
theorem FX.pI2 {K : Nat → Nat → Prop} {h g k : HP} {c j c' j' : Nat} {x y : Int32} (a : FX K h g) (e : k = hI (hI g c j x) c' j' y) (n : ¬ K c j) (m : ¬ K c' j') : FX K h k := FX.pI (FX.pI a _root_.rfl n) e m
theorem FX.pL {K : Nat → Nat → Prop} {h g k : HP} {c j : Nat} {x : Int64} (a : FX K h g) (e : k = hL g c j x) (n : ¬ K c j) : FX K h k := by
  subst e
  intro p q z
  refine ⟨(a p q z).1, ?_, (a p q z).2.2⟩
  show (if p = c ∧ q = j then x else g.2.2.1 p q) = _
  rw [if_neg (fun w => n (by rw [← w.1, ← w.2]; exact z))]
  exact (a p q z).2.1
theorem FX.pR {K : Nat → Nat → Prop} {h g k : HP} {c j : Nat} {x : Value} (a : FX K h g) (e : k = hR g c j x) (n : ¬ K c j) : FX K h k := by
  subst e
  intro p q z
  refine ⟨(a p q z).1, (a p q z).2.1, ?_⟩
  show (if p = c ∧ q = j then x else g.2.2.2 p q) = _
  rw [if_neg (fun w => n (by rw [← w.1, ← w.2]; exact z))]
  exact (a p q z).2.2
/-- what stays: over the class's askings, its program, the reference's askings, its program -/
def KAc (c _j : Nat) : Prop := c ≤ 48 ∨ 70 ≤ c
def KC (c _j : Nat) : Prop := c = 1 ∨ 70 ≤ c
def KC0 (c _j : Nat) : Prop := c ≤ 1 ∨ 70 ≤ c
def KAr (c j : Nat) : Prop := c ≤ 69 ∨ (c = 70 ∧ ((2 ≤ j ∧ j ≤ 5) ∨ j = 29 ∨ j = 30)) ∨ (71 ≤ c ∧ c ≤ 102)
def KR (c _j : Nat) : Prop := c ≤ 69 ∨ c = 71
/-- what a function answers, hidden from omega -/
def PE (a b : Int) : Prop := a = b
theorem PE.symm {a b : Int} (h : PE a b) : b = a := Eq.symm h
/-- finer: over the machine; over the reference's questions; over its program where the text is faulty; over what is kept -/
def KAm (c _j : Nat) : Prop := c ≤ 63 ∨ 70 ≤ c
def KAq (c j : Nat) : Prop := c ≤ 69 ∨ (c = 70 ∧ ((2 ≤ j ∧ j ≤ 5) ∨ j = 29 ∨ j = 30)) ∨ (71 ≤ c ∧ c ≤ 108) ∨ c = 111
def KRt (c _j : Nat) : Prop := c ≤ 69 ∨ c = 71 ∨ (103 ≤ c ∧ c ≤ 111)
def KKF (c j : Nat) : Prop := c ≠ 52 ∧ c ≠ 53 ∧ c ≠ 54 ∧ c ≠ 56 ∧ ¬ (c = 49 ∧ (j = 8 ∨ j = 12))
def KRN (c j : Nat) : Prop := c ≠ 52 ∧ c ≠ 53 ∧ c ≠ 54 ∧ c ≠ 56 ∧ ¬ (c = 49 ∧ (j = 8 ∨ j = 12)) ∧ (c ≤ 63 ∨ 70 ≤ c)



