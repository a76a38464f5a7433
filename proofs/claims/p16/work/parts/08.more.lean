section GO4
variable {l : Launch} {own : String} {cc : ByteArray} {nL : Nat} {R : Room} {nm : String} {rt : Option FieldType} {n0 mc ms : Nat} {Xf : Nat → State → Prop} {Qf : Option Value → HP → Prop} {sl pc : Nat} {lv : List (Nat × Value)} {st : List Value} {h : HP}
end GO4
def hpE : HP := ([], fun _ _ => 0, fun _ _ => 0, fun _ _ => .null)
theorem Mt_ofn {l : Launch} {y : MethodName} {cc : ByteArray} {nL : Nat} {rt : Option FieldType} {d : Nat} {as : List Value} {h : HP} {mc ms : Nat} {Qf : Option Value → HP → Prop} (n0 : Nat) (hn : h.1.length = n0) (hy : plainName y.cls = true) (hlen : (lg_sl as).length ≤ nL) (body : Go l y.cls cc nL (g_rm d mc ms) y.name rt n0 mc ms (fun _ _ => True) Qf 0 0 (lv_args 0 as) [] h) : Mt l y cc nL rt d as h mc ms Qf := by
  subst hn; exact Mt_of hy hlen body
theorem g_c0 {h : HP} {n0 c : Nat} (e : h.1.length = n0) : h.1.length - n0 + 0 ≤ c := by omega
theorem g_shI {h : HP} {c : Nat} {sh : Nat × Nat} {a b : Nat} {x : Int32} (e : h.1[c]? = some sh) : (hI h a b x).1[c]? = some sh := e
theorem g_iI {h : HP} {c j a b : Nat} {x v : Int32} (n : (a == c && b == j) = false) (e : h.2.1 a b = v) : (hI h c j x).2.1 a b = v := by
  have h1 : ¬ (a = c ∧ b = j) := fun q => by simp [q.1, q.2] at n
  show (if a = c ∧ b = j then x else h.2.1 a b) = v
  rw [if_neg h1]; exact e
theorem g_iS {h : HP} {c j : Nat} {x : Int32} : (hI h c j x).2.1 c j = x := by
  show (if c = c ∧ j = j then x else h.2.1 c j) = x
  rw [if_pos ⟨rfl, rfl⟩]
theorem g_rI {h : HP} {c j a b : Nat} {x : Int32} {v : Value} (e : h.2.2.2 a b = v) : (hI h c j x).2.2.2 a b = v := e
theorem mm_K : Cond.code Lib.Math.min.name Lib.Math.min.code 2 (some .int) ∈ gw := gw_mem 587 (by decide +kernel) rfl
theorem mm_S : Cond.static Lib.Math.min.name ∈ gw := gw_mem 586 (by decide +kernel) rfl
theorem mm_I : Cond.initialized "java/lang/Math" ∈ gw := gw_mem 172 (by decide +kernel) rfl
theorem mm_L : Cond.methodLink RX3 83 Lib.Math.min.name ∈ gw := gw_mem 585 (by decide +kernel) rfl
theorem go_mmin {l : Launch} {own : String} {cc : ByteArray} {nL : Nat} {R : Room} {nm : String} {rt : Option FieldType} {n0 mc ms : Nat} {Xf : Nat → State → Prop} {Qf : Option Value → HP → Prop} {sl pc : Nat} {lv : List (Nat × Value)} {st : List Value} {h : HP} {x y : Int32} {idx : Nat} (hL : Cond.methodLink own idx Lib.Math.min.name ∈ gw) (hfr : 1 ≤ R.frames) (hlo : 21 ≤ R.locals) (hst : (st.map fun v => v.category).sum ≤ 8) (hcs : h.1.length - n0 ≤ R.cells) (hsl : sl ≤ R.slots) (hd : decode cc pc = .ok (.invokestatic idx, 3)) (k : Go l own cc nL R nm rt n0 mc ms Xf Qf sl (pc + 3) lv (.int (if y < x then y else x) :: st) h) : Go l own cc nL R nm rt n0 mc ms Xf Qf sl pc lv (.int y :: .int x :: st) h := by
  intro p e s m args below meth c2 D cy zb Q H locs ls C E hP hS hn hl
  have hts := C.2.2.2.2.1
  have hcat := g_cats (zb := zb) hst
  exact va_mmin C.1 C.2.1 (C.2.2.1.trans hl.1.symm) C.2.2.2.1 (hts _ hL) (hts _ mm_S) (hts _ mm_I) (hts _ mm_K) hfr (by omega) hcs hsl hd (k p e s m args below meth c2 D cy zb Q H locs ls C E hP hS hn hl)
