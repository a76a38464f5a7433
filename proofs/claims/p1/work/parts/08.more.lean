section GO4
variable {l : Launch} {own : String} {cc : ByteArray} {nL : Nat} {R : Room} {nm : String} {rt : Option FieldType} {n0 mc ms : Nat} {Xf : Nat → State → Prop} {Qf : Option Value → HP → Prop} {sl pc : Nat} {lv : List (Nat × Value)} {st : List Value} {h : HP}
theorem go_topi {x y : Int32} (e : x = y) (k : Go l own cc nL R nm rt n0 mc ms Xf Qf sl pc lv (.int y :: st) h) : Go l own cc nL R nm rt n0 mc ms Xf Qf sl pc lv (.int x :: st) h := by
  subst e; exact k
theorem go_topl {x y : Int64} (e : x = y) (k : Go l own cc nL R nm rt n0 mc ms Xf Qf sl pc lv (.long y :: st) h) : Go l own cc nL R nm rt n0 mc ms Xf Qf sl pc lv (.long x :: st) h := by
  subst e; exact k
theorem go_iincv {q : Nat} {n : Int} {x y : Int32} (hq : q < nL) (hv : g_lv lv q = some (.int x)) (he : x + Int32.ofInt n = y) (hd : decode cc pc = .ok (.iinc q n, 3)) (k : Go l own cc nL R nm rt n0 mc ms Xf Qf sl (pc + 3) (g_s1 lv q (.int y)) st h) : Go l own cc nL R nm rt n0 mc ms Xf Qf sl pc lv st h := by
  subst he; exact go_iinc hq hv hd k
end GO4
def hpE : HP := ([], fun _ _ => 0, fun _ _ => 0, fun _ _ => .null)
theorem g_sh {h : HP} {S : List (Nat × Nat)} {c : Nat} {sh : Nat × Nat} (hs : h.1 = S) (hc : S[c]? = some sh) : h.1[c]? = some sh := by rw [hs]; exact hc
