section GO4
variable {l : Launch} {own : String} {cc : ByteArray} {nL : Nat} {R : Room} {nm : String} {rt : Option FieldType} {n0 mc ms : Nat} {Xf : Nat → State → Prop} {Qf : Option Value → HP → Prop} {sl pc : Nat} {lv : List (Nat × Value)} {st : List Value} {h : HP}
theorem go_topi {x y : Int32} (e : x = y) (k : Go l own cc nL R nm rt n0 mc ms Xf Qf sl pc lv (.int y :: st) h) : Go l own cc nL R nm rt n0 mc ms Xf Qf sl pc lv (.int x :: st) h := by
  subst e; exact k
theorem go_topl {x y : Int64} (e : x = y) (k : Go l own cc nL R nm rt n0 mc ms Xf Qf sl pc lv (.long y :: st) h) : Go l own cc nL R nm rt n0 mc ms Xf Qf sl pc lv (.long x :: st) h := by
  subst e; exact k
theorem go_iincv {q : Nat} {n : Int} {x y : Int32} (hq : q < nL) (hv : g_lv lv q = some (.int x)) (he : x + Int32.ofInt n = y) (hd : decode cc pc = .ok (.iinc q n, 3)) (k : Go l own cc nL R nm rt n0 mc ms Xf Qf sl (pc + 3) (g_s1 lv q (.int y)) st h) : Go l own cc nL R nm rt n0 mc ms Xf Qf sl pc lv st h := by
  subst he; exact go_iinc hq hv hd k
theorem go_ialdj {c len j : Nat} {i : Int32} (hc : h.1[c]? = some (10, len)) (hi : decide (¬ (i < 0 ∨ len ≤ i.toNatClampNeg)) = true) (hj : i.toNatClampNeg = j) (hd : decode cc pc = .ok (.iaload, 1)) (k : Go l own cc nL R nm rt n0 mc ms Xf Qf sl (pc + 1) lv (.int (h.2.1 c j) :: st) h) : Go l own cc nL R nm rt n0 mc ms Xf Qf sl pc lv (.int i :: .ref c :: st) h := by
  subst hj; exact go_iald hc (show ¬ (_ ∨ _) from of_decide_eq_true hi) hd k
theorem go_iastj {c len j : Nat} {i : Int32} {x : Int32} (hc : h.1[c]? = some (10, len)) (hi : decide (¬ (i < 0 ∨ len ≤ i.toNatClampNeg)) = true) (hj : i.toNatClampNeg = j) (hd : decode cc pc = .ok (.iastore, 1)) (k : Go l own cc nL R nm rt n0 mc ms Xf Qf sl (pc + 1) lv st (hI h c j x)) : Go l own cc nL R nm rt n0 mc ms Xf Qf sl pc lv (.int x :: .int i :: .ref c :: st) h := by
  subst hj; exact go_iast hc (show ¬ (_ ∨ _) from of_decide_eq_true hi) hd k
theorem go_baldj {c len j : Nat} {i : Int32} (hc : h.1[c]? = some (9, len)) (hi : decide (¬ (i < 0 ∨ len ≤ i.toNatClampNeg)) = true) (hj : i.toNatClampNeg = j) (hd : decode cc pc = .ok (.baload, 1)) (k : Go l own cc nL R nm rt n0 mc ms Xf Qf sl (pc + 1) lv (.int (h.2.1 c j) :: st) h) : Go l own cc nL R nm rt n0 mc ms Xf Qf sl pc lv (.int i :: .ref c :: st) h := by
  subst hj; exact go_bald hc (show ¬ (_ ∨ _) from of_decide_eq_true hi) hd k
theorem go_bastj {c len j : Nat} {i : Int32} {x : Int32} (hc : h.1[c]? = some (9, len)) (hi : decide (¬ (i < 0 ∨ len ≤ i.toNatClampNeg)) = true) (hj : i.toNatClampNeg = j) (hd : decode cc pc = .ok (.bastore, 1)) (k : Go l own cc nL R nm rt n0 mc ms Xf Qf sl (pc + 1) lv st (hI h c j (vp_nar .byte x))) : Go l own cc nL R nm rt n0 mc ms Xf Qf sl pc lv (.int x :: .int i :: .ref c :: st) h := by
  subst hj; exact go_bast hc (show ¬ (_ ∨ _) from of_decide_eq_true hi) hd k
theorem go_zaldj {c len j : Nat} {i : Int32} (hc : h.1[c]? = some (12, len)) (hi : decide (¬ (i < 0 ∨ len ≤ i.toNatClampNeg)) = true) (hj : i.toNatClampNeg = j) (hd : decode cc pc = .ok (.baload, 1)) (k : Go l own cc nL R nm rt n0 mc ms Xf Qf sl (pc + 1) lv (.int (h.2.1 c j) :: st) h) : Go l own cc nL R nm rt n0 mc ms Xf Qf sl pc lv (.int i :: .ref c :: st) h := by
  subst hj; exact go_zald hc (show ¬ (_ ∨ _) from of_decide_eq_true hi) hd k
theorem go_zastj {c len j : Nat} {i : Int32} {x : Int32} (hc : h.1[c]? = some (12, len)) (hi : decide (¬ (i < 0 ∨ len ≤ i.toNatClampNeg)) = true) (hj : i.toNatClampNeg = j) (hd : decode cc pc = .ok (.bastore, 1)) (k : Go l own cc nL R nm rt n0 mc ms Xf Qf sl (pc + 1) lv st (hI h c j (vp_nar .boolean x))) : Go l own cc nL R nm rt n0 mc ms Xf Qf sl pc lv (.int x :: .int i :: .ref c :: st) h := by
  subst hj; exact go_zast hc (show ¬ (_ ∨ _) from of_decide_eq_true hi) hd k
theorem go_laldj {c len j : Nat} {i : Int32} (hc : h.1[c]? = some (11, len)) (hi : decide (¬ (i < 0 ∨ len ≤ i.toNatClampNeg)) = true) (hj : i.toNatClampNeg = j) (hd : decode cc pc = .ok (.laload, 1)) (k : Go l own cc nL R nm rt n0 mc ms Xf Qf sl (pc + 1) lv (.long (h.2.2.1 c j) :: st) h) : Go l own cc nL R nm rt n0 mc ms Xf Qf sl pc lv (.int i :: .ref c :: st) h := by
  subst hj; exact go_lald hc (show ¬ (_ ∨ _) from of_decide_eq_true hi) hd k
theorem go_lastj {c len j : Nat} {i : Int32} {x : Int64} (hc : h.1[c]? = some (11, len)) (hi : decide (¬ (i < 0 ∨ len ≤ i.toNatClampNeg)) = true) (hj : i.toNatClampNeg = j) (hd : decode cc pc = .ok (.lastore, 1)) (k : Go l own cc nL R nm rt n0 mc ms Xf Qf sl (pc + 1) lv st (hL h c j x)) : Go l own cc nL R nm rt n0 mc ms Xf Qf sl pc lv (.long x :: .int i :: .ref c :: st) h := by
  subst hj; exact go_last hc (show ¬ (_ ∨ _) from of_decide_eq_true hi) hd k
theorem go_sldj {L x j : Nat} {i : Int32} {xs : Nat → Int32} (hX : ∀ b s, Xf b s → va_X b L xs s s.heap ∧ b < s.heap.size) (h0n : n0 = 0) (hi : decide (¬ (i < 0 ∨ L ≤ i.toNatClampNeg)) = true) (hj : i.toNatClampNeg = j) (hd : decode cc pc = .ok (.iaload, 1)) (k : Go l own cc nL R nm rt n0 mc ms Xf Qf sl (pc + 1) lv (.int (xs j) :: st) h) : Go l own cc nL R nm rt n0 mc ms Xf Qf sl pc lv (.int i :: .retAddr x :: st) h := by
  subst hj; exact go_sld hX h0n (show ¬ (_ ∨ _) from of_decide_eq_true hi) hd k
end GO4
def hpE : HP := ([], fun _ _ => 0, fun _ _ => 0, fun _ _ => .null)
theorem g_sh {h : HP} {S : List (Nat × Nat)} {c : Nat} {sh : Nat × Nat} (hs : h.1 = S) (hc : S[c]? = some sh) : h.1[c]? = some sh := by rw [hs]; exact hc
theorem g_out0_5 {x : Int32} (q0 : ¬ x = 0) (q1 : ¬ x = 1) (q2 : ¬ x = 2) (q3 : ¬ x = 3) (q4 : ¬ x = 4) (q5 : ¬ x = 5) : x.toInt < 0 ∨ 5 < x.toInt := by
  have e0 := lv_neT q0 (a := 0) (by decide)
  have e1 := lv_neT q1 (a := 1) (by decide)
  have e2 := lv_neT q2 (a := 2) (by decide)
  have e3 := lv_neT q3 (a := 3) (by decide)
  have e4 := lv_neT q4 (a := 4) (by decide)
  have e5 := lv_neT q5 (a := 5) (by decide)
  omega
theorem g_out0_6 {x : Int32} (q0 : ¬ x = 0) (q1 : ¬ x = 1) (q2 : ¬ x = 2) (q3 : ¬ x = 3) (q4 : ¬ x = 4) (q5 : ¬ x = 5) (q6 : ¬ x = 6) : x.toInt < 0 ∨ 6 < x.toInt := by
  have e0 := lv_neT q0 (a := 0) (by decide)
  have e1 := lv_neT q1 (a := 1) (by decide)
  have e2 := lv_neT q2 (a := 2) (by decide)
  have e3 := lv_neT q3 (a := 3) (by decide)
  have e4 := lv_neT q4 (a := 4) (by decide)
  have e5 := lv_neT q5 (a := 5) (by decide)
  have e6 := lv_neT q6 (a := 6) (by decide)
  omega
theorem g_out0_17 {x : Int32} (q0 : ¬ x = 0) (q1 : ¬ x = 1) (q2 : ¬ x = 2) (q3 : ¬ x = 3) (q4 : ¬ x = 4) (q5 : ¬ x = 5) (q6 : ¬ x = 6) (q7 : ¬ x = 7) (q8 : ¬ x = 8) (q9 : ¬ x = 9) (q10 : ¬ x = 10) (q11 : ¬ x = 11) (q12 : ¬ x = 12) (q13 : ¬ x = 13) (q14 : ¬ x = 14) (q15 : ¬ x = 15) (q16 : ¬ x = 16) (q17 : ¬ x = 17) : x.toInt < 0 ∨ 17 < x.toInt := by
  have e0 := lv_neT q0 (a := 0) (by decide)
  have e1 := lv_neT q1 (a := 1) (by decide)
  have e2 := lv_neT q2 (a := 2) (by decide)
  have e3 := lv_neT q3 (a := 3) (by decide)
  have e4 := lv_neT q4 (a := 4) (by decide)
  have e5 := lv_neT q5 (a := 5) (by decide)
  have e6 := lv_neT q6 (a := 6) (by decide)
  have e7 := lv_neT q7 (a := 7) (by decide)
  have e8 := lv_neT q8 (a := 8) (by decide)
  have e9 := lv_neT q9 (a := 9) (by decide)
  have e10 := lv_neT q10 (a := 10) (by decide)
  have e11 := lv_neT q11 (a := 11) (by decide)
  have e12 := lv_neT q12 (a := 12) (by decide)
  have e13 := lv_neT q13 (a := 13) (by decide)
  have e14 := lv_neT q14 (a := 14) (by decide)
  have e15 := lv_neT q15 (a := 15) (by decide)
  have e16 := lv_neT q16 (a := 16) (by decide)
  have e17 := lv_neT q17 (a := 17) (by decide)
  omega
theorem g_out0_4 {x : Int32} (q0 : ¬ x = 0) (q1 : ¬ x = 1) (q2 : ¬ x = 2) (q3 : ¬ x = 3) (q4 : ¬ x = 4) : x.toInt < 0 ∨ 4 < x.toInt := by
  have e0 := lv_neT q0 (a := 0) (by decide)
  have e1 := lv_neT q1 (a := 1) (by decide)
  have e2 := lv_neT q2 (a := 2) (by decide)
  have e3 := lv_neT q3 (a := 3) (by decide)
  have e4 := lv_neT q4 (a := 4) (by decide)
  omega
theorem g_out0_3 {x : Int32} (q0 : ¬ x = 0) (q1 : ¬ x = 1) (q2 : ¬ x = 2) (q3 : ¬ x = 3) : x.toInt < 0 ∨ 3 < x.toInt := by
  have e0 := lv_neT q0 (a := 0) (by decide)
  have e1 := lv_neT q1 (a := 1) (by decide)
  have e2 := lv_neT q2 (a := 2) (by decide)
  have e3 := lv_neT q3 (a := 3) (by decide)
  omega
theorem Mt_ofn {l : Launch} {y : MethodName} {cc : ByteArray} {nL : Nat} {rt : Option FieldType} {d : Nat} {as : List Value} {h : HP} {mc ms : Nat} {Qf : Option Value → HP → Prop} (n0 : Nat) (hn : h.1.length = n0) (hy : plainName y.cls = true) (hlen : (lg_sl as).length ≤ nL) (body : Go l y.cls cc nL (g_rm d mc ms) y.name rt n0 mc ms (fun _ _ => True) Qf 0 0 (lv_args 0 as) [] h) : Mt l y cc nL rt d as h mc ms Qf := by
  subst hn; exact Mt_of hy hlen body
theorem g_c0 {h : HP} {n0 c : Nat} (e : h.1.length = n0) : h.1.length - n0 + 0 ≤ c := by omega
theorem g_shI {h : HP} {c : Nat} {sh : Nat × Nat} {a b : Nat} {x : Int32} (e : h.1[c]? = some sh) : (hI h a b x).1[c]? = some sh := e
theorem g_shL {h : HP} {c : Nat} {sh : Nat × Nat} {a b : Nat} {x : Int64} (e : h.1[c]? = some sh) : (hL h a b x).1[c]? = some sh := e
theorem g_shR {h : HP} {c : Nat} {sh : Nat × Nat} {a b : Nat} {x : Value} (e : h.1[c]? = some sh) : (hR h a b x).1[c]? = some sh := e
theorem g_lnI {h : HP} {n : Nat} {a b : Nat} {x : Int32} (e : h.1.length = n) : (hI h a b x).1.length = n := e
theorem g_lnL {h : HP} {n : Nat} {a b : Nat} {x : Int64} (e : h.1.length = n) : (hL h a b x).1.length = n := e
theorem g_lnR {h : HP} {n : Nat} {a b : Nat} {x : Value} (e : h.1.length = n) : (hR h a b x).1.length = n := e
theorem g_iI {h : HP} {c j a b : Nat} {x v : Int32} (n : (a == c && b == j) = false) (e : h.2.1 a b = v) : (hI h c j x).2.1 a b = v := by
  have h1 : ¬ (a = c ∧ b = j) := fun q => by simp [q.1, q.2] at n
  show (if a = c ∧ b = j then x else h.2.1 a b) = v
  rw [if_neg h1]; exact e
theorem g_iS {h : HP} {c j : Nat} {x : Int32} : (hI h c j x).2.1 c j = x := by
  show (if c = c ∧ j = j then x else h.2.1 c j) = x
  rw [if_pos ⟨rfl, rfl⟩]
theorem g_iL {h : HP} {c j a b : Nat} {x : Int64} {v : Int32} (e : h.2.1 a b = v) : (hL h c j x).2.1 a b = v := e
theorem g_iR {h : HP} {c j a b : Nat} {x : Value} {v : Int32} (e : h.2.1 a b = v) : (hR h c j x).2.1 a b = v := e
theorem g_lI {h : HP} {c j a b : Nat} {x : Int32} {v : Int64} (e : h.2.2.1 a b = v) : (hI h c j x).2.2.1 a b = v := e
theorem g_lR {h : HP} {c j a b : Nat} {x : Value} {v : Int64} (e : h.2.2.1 a b = v) : (hR h c j x).2.2.1 a b = v := e
theorem g_lL {h : HP} {c j a b : Nat} {x v : Int64} (n : (a == c && b == j) = false) (e : h.2.2.1 a b = v) : (hL h c j x).2.2.1 a b = v := by
  have h1 : ¬ (a = c ∧ b = j) := fun q => by simp [q.1, q.2] at n
  show (if a = c ∧ b = j then x else h.2.2.1 a b) = v
  rw [if_neg h1]; exact e
theorem g_lS {h : HP} {c j : Nat} {x : Int64} : (hL h c j x).2.2.1 c j = x := by
  show (if c = c ∧ j = j then x else h.2.2.1 c j) = x
  rw [if_pos ⟨rfl, rfl⟩]
theorem g_rI {h : HP} {c j a b : Nat} {x : Int32} {v : Value} (e : h.2.2.2 a b = v) : (hI h c j x).2.2.2 a b = v := e
theorem g_rL {h : HP} {c j a b : Nat} {x : Int64} {v : Value} (e : h.2.2.2 a b = v) : (hL h c j x).2.2.2 a b = v := e
theorem g_rR {h : HP} {c j a b : Nat} {x v : Value} (n : (a == c && b == j) = false) (e : h.2.2.2 a b = v) : (hR h c j x).2.2.2 a b = v := by
  have h1 : ¬ (a = c ∧ b = j) := fun q => by simp [q.1, q.2] at n
  show (if a = c ∧ b = j then x else h.2.2.2 a b) = v
  rw [if_neg h1]; exact e
theorem g_rS {h : HP} {c j : Nat} {x : Value} : (hR h c j x).2.2.2 c j = x := by
  show (if c = c ∧ j = j then x else h.2.2.2 c j) = x
  rw [if_pos ⟨rfl, rfl⟩]
theorem mm_K : Cond.code Lib.Math.min.name Lib.Math.min.code 2 (some .int) ∈ gw := gw_mem 587 (by decide +kernel) rfl
theorem mm_S : Cond.static Lib.Math.min.name ∈ gw := gw_mem 586 (by decide +kernel) rfl
theorem mm_I : Cond.initialized "java/lang/Math" ∈ gw := gw_mem 172 (by decide +kernel) rfl
theorem mm_L : Cond.methodLink RX3 83 Lib.Math.min.name ∈ gw := gw_mem 585 (by decide +kernel) rfl
theorem go_mmin {l : Launch} {own : String} {cc : ByteArray} {nL : Nat} {R : Room} {nm : String} {rt : Option FieldType} {n0 mc ms : Nat} {Xf : Nat → State → Prop} {Qf : Option Value → HP → Prop} {sl pc : Nat} {lv : List (Nat × Value)} {st : List Value} {h : HP} {x y : Int32} {idx : Nat} (hL : Cond.methodLink own idx Lib.Math.min.name ∈ gw) (hfr : 1 ≤ R.frames) (hlo : 21 ≤ R.locals) (hst : (st.map fun v => v.category).sum ≤ 8) (hcs : h.1.length - n0 ≤ R.cells) (hsl : sl ≤ R.slots) (hd : decode cc pc = .ok (.invokestatic idx, 3)) (k : Go l own cc nL R nm rt n0 mc ms Xf Qf sl (pc + 3) lv (.int (if y < x then y else x) :: st) h) : Go l own cc nL R nm rt n0 mc ms Xf Qf sl pc lv (.int y :: .int x :: st) h := by
  intro p e s m args below meth c2 D cy zb Q H locs ls C E hP hS hn hl
  have hts := C.2.2.2.2.1
  have hcat := g_cats (zb := zb) hst
  exact va_mmin C.1 C.2.1 (C.2.2.1.trans hl.1.symm) C.2.2.2.1 (hts _ hL) (hts _ mm_S) (hts _ mm_I) (hts _ mm_K) hfr (by omega) hcs hsl hd (k p e s m args below meth c2 D cy zb Q H locs ls C E hP hS hn hl)
theorem g_c1 {h : HP} {n0 c : Nat} (e : h.1.length = n0) : h.1.length - n0 ≤ c := by omega
