/-! one half of the tree -/
def HE (F G : FN) (s : Int) : Prop := ∀ (c j : Nat), 73 ≤ c → c ≤ 102 → wd c * s ≤ (j : Int) → (j : Int) < wd c * s + wd c → G c j = F c j
theorem HE.oh {F G : FN} {s t : Int} (h : OH F G t) (h0 : 0 ≤ s) (h1 : 0 ≤ t) (e : s + t = 1) : HE F G s := fun c j a b p q => by
  have w : 0 < wd c := by unfold wd; (repeat' split) <;> omega
  refine h.1 c j a b (fun z => ?_)
  have hs : (s = 0 ∧ t = 1) ∨ (s = 1 ∧ t = 0) := by omega
  rcases hs with ⟨rfl, rfl⟩ | ⟨rfl, rfl⟩
  · rw [Int.mul_zero] at p q; rw [Int.mul_one] at z; omega
  · rw [Int.mul_one] at p q; rw [Int.mul_zero] at z; omega
theorem HE.v {F G : FN} {s i : Int} {c : Nat} (w : Int) (h : HE F G s) (hw : wd c = w) (h1 : 73 ≤ c) (h2 : c ≤ 102) (h0 : 0 ≤ i) (p : w * s ≤ i) (q : i < w * s + w) : V G c i = V F c i := by
  unfold V
  rw [h c _ h1 h2 (by rw [hw]; omega) (by rw [hw]; omega)]
theorem II.he {F G : FN} {s i : Int} (h : HE F G s) (h0 : 0 ≤ s) : II G s i ↔ II F s i := by
  unfold II
  rw [h.v 1 (c := 73) rfl (by omega) (by omega) h0 (by omega) (by omega)]
theorem BB.he {F G : FN} {s i : Int} (h : HE F G s) (h0 : 0 ≤ s) : BB G s i ↔ BB F s i := by
  unfold BB
  rw [h.v 1 (c := 74) rfl (by omega) (by omega) h0 (by omega) (by omega)]
theorem TR.he {F G : FN} {s : Int} (h : HE F G s) (h0 : 0 ≤ s) (b3 : V F 73 s ≤ 130) (b4 : V F 74 s ≤ 280) (b5 : V F 75 s ≤ 40) (t : TR F s) : TR G s := by
  obtain ⟨⟨p1, p2, p3⟩, a1, a2, a3, a4, a5, a6⟩ := t
  have e73 : V G 73 s = V F 73 s := h.v 1 rfl (by omega) (by omega) h0 (by omega) (by omega)
  have e74 : V G 74 s = V F 74 s := h.v 1 rfl (by omega) (by omega) h0 (by omega) (by omega)
  have e75 : V G 75 s = V F 75 s := h.v 1 rfl (by omega) (by omega) h0 (by omega) (by omega)
  have eI : ∀ (c : Nat) (i : Int), wd c = 130 → 73 ≤ c → c ≤ 102 → II F s i → V G c i = V F c i := fun c i w q1 q2 hi => by
    have x1 := hi.1
    have x2 := hi.2
    exact h.v 130 w q1 q2 (by omega) (by omega) (by omega)
  have eB : ∀ (c : Nat) (i : Int), wd c = 280 → 73 ≤ c → c ≤ 102 → BB F s i → V G c i = V F c i := fun c i w q1 q2 hi => by
    have x1 := hi.1
    have x2 := hi.2
    exact h.v 280 w q1 q2 (by omega) (by omega) (by omega)
  have e9 : ∀ i : Int, II F s i → V G 89 (2 * i) = V F 89 (2 * i) ∧ V G 89 (2 * i + 1) = V F 89 (2 * i + 1) := fun i hi => by
    have x1 := hi.1
    have x2 := hi.2
    exact ⟨h.v 260 rfl (by omega) (by omega) (by omega) (by omega) (by omega), h.v 260 rfl (by omega) (by omega) (by omega) (by omega) (by omega)⟩
  have e93 : ∀ k : Int, 0 ≤ k → k < V F 75 s → V G 93 (40 * s + k) = V F 93 (40 * s + k) := fun k x1 x2 => h.v 40 rfl (by omega) (by omega) (by omega) (by omega) (by omega)
  refine ⟨⟨by omega, by omega, by omega⟩, fun i hi => ?_, fun i hi => ?_, fun i hi => ?_, fun i hi => ?_, fun b hb => ?_, fun k h1 h2 => ?_⟩
  · have hF := (II.he h h0).mp hi
    have w := a1 i hF
    unfold T1 at *
    rw [eI 87 i rfl (by omega) (by omega) hF, e73, eI 88 i rfl (by omega) (by omega) hF]
    rcases w with w | ⟨w1, w2, w3⟩
    · exact Or.inl w
    · refine Or.inr ⟨w1, w2, ?_⟩
      rw [eI 88 _ rfl (by omega) (by omega) ⟨by have := hF.1; omega, w2⟩]
      exact w3
  · have hF := (II.he h h0).mp hi
    have w := a2 i hF
    unfold T2 at *
    rw [eI 88 i rfl (by omega) (by omega) hF, BB.he h h0, eB 92 _ rfl (by omega) (by omega) w.1, eI 80 i rfl (by omega) (by omega) hF]
    refine ⟨w.1, ?_⟩
    rcases w.2 with q | ⟨q1, q2, q3, q4⟩
    · exact Or.inl q
    · have x2 := hF.2
      refine Or.inr ⟨q1, q2, ?_, fun k w1 w2 => ?_⟩
      · rw [eI 80 _ rfl (by omega) (by omega) ⟨q1, by omega⟩]; exact q3
      · rw [eI 80 k rfl (by omega) (by omega) ⟨by omega, by omega⟩]; exact q4 k w1 w2
  · have hF := (II.he h h0).mp hi
    have w := a3 i hF
    have n9 := e9 i hF
    unfold T3 at *
    rw [eI 77 i rfl (by omega) (by omega) hF, eI 78 i rfl (by omega) (by omega) hF, eI 82 i rfl (by omega) (by omega) hF, n9.1, n9.2, e75]
    refine ⟨fun q => ?_, w.2⟩
    obtain ⟨w1, w2, w3⟩ := w.1 q
    exact ⟨w1, w2, by rw [e93 _ w1 w2]; exact w3⟩
  · have hF := (II.he h h0).mp hi
    have w := a4 i hF
    unfold T4 at *
    rw [eI 85 i rfl (by omega) (by omega) hF, eI 86 i rfl (by omega) (by omega) hF, BB.he h h0, BB.he h h0]
    refine ⟨?_, ?_⟩
    · rcases w.1 with q | ⟨q1, q2⟩
      · exact Or.inl q
      · exact Or.inr ⟨q1, by rw [eB 92 _ rfl (by omega) (by omega) q1]; exact q2⟩
    · rcases w.2 with q | ⟨q1, q2⟩
      · exact Or.inl q
      · exact Or.inr ⟨q1, by rw [eB 92 _ rfl (by omega) (by omega) q1]; exact q2⟩
  · have hF := (BB.he h h0).mp hb
    have w := a5 b hF
    unfold T5 at *
    rw [eB 90 b rfl (by omega) (by omega) hF, eB 91 b rfl (by omega) (by omega) hF, eB 92 b rfl (by omega) (by omega) hF, II.he h h0, II.he h h0, II.he h h0]
    refine ⟨?_, ?_, w.2.2⟩
    · rcases w.1 with q | ⟨q1, q2⟩
      · exact Or.inl q
      · exact Or.inr ⟨q1, by rw [eI 88 _ rfl (by omega) (by omega) q1]; exact q2⟩
    · rcases w.2.1 with q | ⟨q1, q2⟩
      · exact Or.inl q
      · exact Or.inr ⟨q1, by rw [eI 88 _ rfl (by omega) (by omega) q1]; exact q2⟩
  · rw [e75] at h2
    rw [II.he h h0, e93 k h1 h2]
    exact a6 k h1 h2
theorem RD.he {F G : FN} {s : Int} (h : HE F G s) (h0 : 0 ≤ s) (b3 : V F 73 s ≤ 130) (b4 : V F 74 s ≤ 280) (b5 : V F 75 s ≤ 40) (b6 : V F 76 s ≤ 5) (r : RD F s) : RD G s := by
  obtain ⟨t, cn, wh⟩ := r
  have e73 : V G 73 s = V F 73 s := h.v 1 rfl (by omega) (by omega) h0 (by omega) (by omega)
  have e76 : V G 76 s = V F 76 s := h.v 1 rfl (by omega) (by omega) h0 (by omega) (by omega)
  refine ⟨t.he h h0 b3 b4 b5, fun j h1 h2 => ?_, fun p h1 h2 => ?_⟩
  · rw [e73] at h2
    have w := cn j h1 h2
    have e : ∀ c : Nat, wd c = 130 → 73 ≤ c → c ≤ 102 → V G c j = V F c j := fun c q q1 q2 => h.v 130 q q1 q2 (by omega) (by omega) (by omega)
    unfold CC at *
    rw [e 80 rfl (by omega) (by omega), e 77 rfl (by omega) (by omega), e 82 rfl (by omega) (by omega), e 85 rfl (by omega) (by omega), e 86 rfl (by omega) (by omega)]
    exact w
  · rw [e76] at h2
    have w := wh p h1 h2
    have e94 : V G 94 (5 * s + p) = V F 94 (5 * s + p) := h.v 5 rfl (by omega) (by omega) (by omega) (by omega) (by omega)
    have x1 := w.1.1
    have x2 := w.1.2
    rw [e94, BB.he h h0, h.v 280 (c := 92) rfl (by omega) (by omega) (by omega) (by omega) (by omega)]
    exact w
theorem TD.he {F G : FN} {s : Int} (h : HE F G s) (h0 : 0 ≤ s) (b3 : V F 73 s ≤ 130) (b5 : V F 75 s ≤ 40) (t : TR F s) (d : TD F s) : TD G s := fun k h1 h2 => by
  have e75 : V G 75 s = V F 75 s := h.v 1 rfl (by omega) (by omega) h0 (by omega) (by omega)
  rw [e75] at h2
  have i := t.2.2.2.2.2.2 k h1 h2
  have x1 := i.1
  have x2 := i.2
  rw [h.v 40 (c := 93) rfl (by omega) (by omega) (by omega) (by omega) (by omega), h.v 130 (c := 84) rfl (by omega) (by omega) (by omega) (by omega) (by omega), h.v 1 (c := 76) rfl (by omega) (by omega) h0 (by omega) (by omega)]
  exact d k h1 h2
/-- what lives stays as the other half is read anew -/
theorem LV.oh {P : PP} {h : HP} {G : FN} {t : Int} (hv : Iv P h) (o : OH h.2.1 G t) (h1 : 0 ≤ t) (e : (h.2.1 70 29).toInt + t = 1) (l : LV h.2.1) : LV G := fun q => by
  have e29 : G 70 29 = h.2.1 70 29 := o.2.2.1
  have e30 : G 70 30 = h.2.1 70 30 := o.2.2.2
  rw [e30] at q
  obtain ⟨w1, w2, w3⟩ := l q
  have h0 : 0 ≤ (h.2.1 70 29).toInt := (hv.2.1 70 29).1
  have he := HE.oh (s := (h.2.1 70 29).toInt) o h0 h1 e
  have b3 : V h.2.1 73 (h.2.1 70 29).toInt ≤ 130 := (hv.2.1 73 _).2
  have b4 : V h.2.1 74 (h.2.1 70 29).toInt ≤ 280 := (hv.2.1 74 _).2
  have b5 : V h.2.1 75 (h.2.1 70 29).toInt ≤ 40 := (hv.2.1 75 _).2
  have b6 : V h.2.1 76 (h.2.1 70 29).toInt ≤ 5 := (hv.2.1 76 _).2
  rw [e29]
  refine ⟨w1.he he h0 b3 b4 b5 b6, TD.he he h0 b3 b5 w1.1 w2, ?_⟩
  rw [he.v 1 (c := 76) rfl (by omega) (by omega) h0 (by omega) (by omega)]
  exact w3
theorem go_post {l : Launch} {own : String} {cc : ByteArray} {nL : Nat} {R : Room} {nm : String} {rt : Option FieldType} {n0 mc ms : Nat} {Xf : Nat → State → Prop} {Qf Qg : Option Value → HP → Prop} {sl pc : Nat} {lv : List (Nat × Value)} {st : List Value} {h : HP} (hq : ∀ r h', Qf r h' → Qg r h') (g : Go l own cc nL R nm rt n0 mc ms Xf Qf sl pc lv st h) : Go l own cc nL R nm rt n0 mc ms Xf Qg sl pc lv st h :=
  fun p e s m args below meth c D cy zb Q H locs ls C E => g p e s m args below meth c D cy zb Q H locs ls C (fun r h' H locs pc ls hr => E r h' H locs pc ls (hq r h' hr))
theorem Iv.putG {P : PP} {h : HP} {j : Nat} {x : Int32} {a : Int} (hi : Iv P h) (ex : TI x a) (h1 : 0 ≤ a) (h2 : a ≤ 1) (hj : j = 6 ∨ j = 29 ∨ j = 30) : Iv (mz P (hI h 70 j x)) (hI h 70 j x) := by
  obtain ⟨q1, q2, q3, q4, q5, q6, q7, q8, q9, q10, q12⟩ := hi
  refine ⟨q1, fun c' j' => ?_, q3, q4, q5, fun c' hc' j' => ?_, q7, ?_, fun c' hc' j' => ?_, q10, fun c' j' hc' => _root_.rfl⟩
  · show (rg c' j').1 ≤ (if c' = 70 ∧ j' = j then x else h.2.1 c' j').toInt ∧ (if c' = 70 ∧ j' = j then x else h.2.1 c' j').toInt ≤ (rg c' j').2
    by_cases e : c' = 70 ∧ j' = j
    · rw [if_pos e, e.1, e.2, show x.toInt = a from ex]
      rcases hj with rfl | rfl | rfl <;> exact ⟨h1, h2⟩
    · rw [if_neg e]; exact q2 c' j'
  · show (if c' + 2 = 70 ∧ j' = j then x else h.2.1 (c' + 2) j').toInt = 1 → 0 ≤ (if c' + 7 = 70 ∧ j' = j then x else h.2.1 (c' + 7) j').toInt
    rw [if_neg (by omega), if_neg (by omega)]
    exact q6 c' hc' j'
  · show (if 70 = 70 ∧ 2 = j then x else h.2.1 70 2) = _
    rw [if_neg (by omega)]; exact q8
  · show (if c' = 70 ∧ j' = j then x else h.2.1 c' j') = _
    rw [if_neg (by omega)]; exact q9 c' hc' j'
theorem gi_putG {l : Launch} {own : String} {cc : ByteArray} {nL : Nat} {R : Room} {nm : String} {rt : Option FieldType} {n0 mc ms : Nat} {Xf : Nat → State → Prop} {Qf : Option Value → HP → Prop} {sl pc : Nat} {lv : List (Nat × Value)} {st : List Value} {h : HP} {P : PP} {idx j : Nat} {x : Int32} {a : Int} (hv : Iv P h) (ex : TI x a) (hf : FP own nm idx 8 j) (hi2 : j < 60) (hty : g_kind (g_ty 8 j) = 0) (hna : narrow (g_ty 8 j) (.int x) = .int x) (hfi : fits (g_ty 8 j) (.int x) = true) (h1 : 0 ≤ a) (h2 : a ≤ 1) (hj : j = 6 ∨ j = 29 ∨ j = 30) (hd : decode cc pc = .ok (.putfield idx, 3)) (k : ∀ h' : HP, Iv (mz P h') h' → h' = hI h 70 j x → Go l own cc nL R nm rt n0 mc ms Xf Qf sl (pc + 3) lv st h') : Go l own cc nL R nm rt n0 mc ms Xf Qf sl pc lv (.int x :: .ref 70 :: st) h :=
  go_putI hf (hv.sh rfl) hi2 hty (fun _ => hna) (fun _ => hfi) hd (k _ (hv.putG ex h1 h2 hj) rfl)
/-- what is told of a program that is read well -/
def PB (F : FN) (s : Int) : Prop := RD F s ∧ TD F s ∧ 1 ≤ V F 76 s ∧ WI F s
theorem PB.kx {m : Nat} {F G : FN} (h : KX m F G) (hm : 100 ≤ m) {s : Int} (p : PB F s) : PB G s := by
  refine ⟨p.1.kx h (by omega), p.2.1.kx h (by omega), ?_, fun k a b q => ?_⟩
  · rw [h.v (by omega) (by omega)]; exact p.2.2.1
  · rw [h.v (c := 75) (by omega) (by omega)] at b
    rw [h.v (c := 77) (by omega) (by omega), h.v (c := 93) (by omega) (by omega)] at q
    rw [h.v (c := 96) (by omega) (by omega)]
    exact p.2.2.2 k a b q
theorem PB.ways {F G : FN} {s : Int} (h : KX 94 F G) (r : RD F s) (t : TD F s) (o : 1 ≤ V F 76 s) (w : WJ F G s (V F 75 s)) : PB G s := by
  refine ⟨r.kx h (by omega), t.kx h (by omega), ?_, fun k a b q => ?_⟩
  · rw [h.v (by omega) (by omega)]; exact o
  · rw [h.v (c := 75) (by omega) (by omega)] at b
    rw [h.v (c := 77) (by omega) (by omega), h.v (c := 93) (by omega) (by omega)] at q
    exact w k a b q
abbrev MC (P Q : PP) : Prop := MW P Q
/-- what the reference's program keeps of P -/
def PG (P Q : PP) : Prop := Q.1 = P.1 ∧ Q.2.1.toInt = 0 ∧ Q.2.2.1 = P.2.2.1 ∧ Q.2.2.2.1 = P.2.2.2.1
theorem dX8_program_0 : decode cX8_program 0 = .ok (.aload_n 0, 1) := by decide +kernel
theorem dX8_program_1 : decode cX8_program 1 = .ok (.aload_n 0, 1) := by decide +kernel
theorem dX8_program_2 : decode cX8_program 2 = .ok (.getfield 151, 3) := by decide +kernel
theorem dX8_program_5 : decode cX8_program 5 = .ok (.putfield 166, 3) := by decide +kernel
theorem dX8_program_8 : decode cX8_program 8 = .ok (.iconst 0, 1) := by decide +kernel
theorem dX8_program_9 : decode cX8_program 9 = .ok (.istore_n 1, 1) := by decide +kernel
theorem dX8_program_10 : decode cX8_program 10 = .ok (.iload_n 1, 1) := by decide +kernel
theorem dX8_program_11 : decode cX8_program 11 = .ok (.aload_n 0, 1) := by decide +kernel
theorem dX8_program_12 : decode cX8_program 12 = .ok (.getfield 166, 3) := by decide +kernel
theorem dX8_program_15 : decode cX8_program 15 = .ok (.if_icmp .ge 21, 3) := by decide +kernel
theorem dX8_program_18 : decode cX8_program 18 = .ok (.aload_n 0, 1) := by decide +kernel
theorem dX8_program_19 : decode cX8_program 19 = .ok (.getfield 13, 3) := by decide +kernel
theorem dX8_program_22 : decode cX8_program 22 = .ok (.iload_n 1, 1) := by decide +kernel
theorem dX8_program_23 : decode cX8_program 23 = .ok (.aload_n 0, 1) := by decide +kernel
theorem dX8_program_24 : decode cX8_program 24 = .ok (.getfield 7, 3) := by decide +kernel
theorem dX8_program_27 : decode cX8_program 27 = .ok (.iload_n 1, 1) := by decide +kernel
theorem dX8_program_28 : decode cX8_program 28 = .ok (.baload, 1) := by decide +kernel
theorem dX8_program_29 : decode cX8_program 29 = .ok (.bastore, 1) := by decide +kernel
theorem dX8_program_30 : decode cX8_program 30 = .ok (.iinc 1 1, 3) := by decide +kernel
theorem dX8_program_33 : decode cX8_program 33 = .ok (.goto (-23), 3) := by decide +kernel
theorem dX8_program_36 : decode cX8_program 36 = .ok (.aload_n 0, 1) := by decide +kernel
theorem dX8_program_37 : decode cX8_program 37 = .ok (.iconst 0, 1) := by decide +kernel
theorem dX8_program_38 : decode cX8_program 38 = .ok (.putfield 151, 3) := by decide +kernel
theorem dX8_program_41 : decode cX8_program 41 = .ok (.aload_n 0, 1) := by decide +kernel
theorem dX8_program_42 : decode cX8_program 42 = .ok (.iconst 0, 1) := by decide +kernel
theorem dX8_program_43 : decode cX8_program 43 = .ok (.putfield 163, 3) := by decide +kernel
theorem dX8_program_46 : decode cX8_program 46 = .ok (.aload_n 0, 1) := by decide +kernel
theorem dX8_program_47 : decode cX8_program 47 = .ok (.iconst 0, 1) := by decide +kernel
theorem dX8_program_48 : decode cX8_program 48 = .ok (.putfield 169, 3) := by decide +kernel
theorem dX8_program_51 : decode cX8_program 51 = .ok (.aload_n 0, 1) := by decide +kernel
theorem dX8_program_52 : decode cX8_program 52 = .ok (.iconst 1, 1) := by decide +kernel
theorem dX8_program_53 : decode cX8_program 53 = .ok (.aload_n 0, 1) := by decide +kernel
theorem dX8_program_54 : decode cX8_program 54 = .ok (.getfield 228, 3) := by decide +kernel
theorem dX8_program_57 : decode cX8_program 57 = .ok (.isub, 1) := by decide +kernel
theorem dX8_program_58 : decode cX8_program 58 = .ok (.putfield 187, 3) := by decide +kernel
theorem dX8_program_215 : decode cX8_program 215 = .ok (.aload_n 0, 1) := by decide +kernel
theorem dX8_program_216 : decode cX8_program 216 = .ok (.aload_n 0, 1) := by decide +kernel
theorem dX8_program_217 : decode cX8_program 217 = .ok (.getfield 187, 3) := by decide +kernel
theorem dX8_program_220 : decode cX8_program 220 = .ok (.putfield 228, 3) := by decide +kernel
theorem dX8_program_223 : decode cX8_program 223 = .ok (.aload_n 0, 1) := by decide +kernel
theorem dX8_program_224 : decode cX8_program 224 = .ok (.iconst 1, 1) := by decide +kernel
theorem dX8_program_225 : decode cX8_program 225 = .ok (.putfield 243, 3) := by decide +kernel
theorem dX8_program_228 : decode cX8_program 228 = .ok (.aload_n 0, 1) := by decide +kernel
theorem dX8_program_229 : decode cX8_program 229 = .ok (.iconst 0, 1) := by decide +kernel
theorem dX8_program_230 : decode cX8_program 230 = .ok (.putfield 247, 3) := by decide +kernel
theorem dX8_program_233 : decode cX8_program 233 = .ok (.aload_n 0, 1) := by decide +kernel
theorem dX8_program_234 : decode cX8_program 234 = .ok (.invokevirtual 250, 3) := by decide +kernel
theorem dX8_program_237 : decode cX8_program 237 = .ok (.aload_n 0, 1) := by decide +kernel
theorem dX8_program_238 : decode cX8_program 238 = .ok (.getfield 23, 3) := by decide +kernel
theorem dX8_program_241 : decode cX8_program 241 = .ok (.aload_n 0, 1) := by decide +kernel
theorem dX8_program_242 : decode cX8_program 242 = .ok (.getfield 228, 3) := by decide +kernel
theorem dX8_program_245 : decode cX8_program 245 = .ok (.iaload, 1) := by decide +kernel
theorem dX8_program_246 : decode cX8_program 246 = .ok (.ireturn, 1) := by decide +kernel
set_option maxHeartbeats 4000000 in
set_option maxRecDepth 100000 in
theorem s_X8_program_c (l : Launch) (d : Nat) {P : PP} {h : HP} (hv : Iv P h) (ckf : CKF h.2.1) (hpb : PB h.2.1 (h.2.1 70 6).toInt) : Go l RX8 cX8_program 2 (g_rm (d + 600) 0 0) "program" (some .int) 117 0 0 (fun _ _ => True) (fun r h' => ∃ v : Int32, r = some (.int v) ∧ -2147483648 ≤ v.toInt ∧ v.toInt ≤ 2147483647 ∧ (∃ Q : PP, Iv Q h' ∧ MC P Q) ∧ ((CKF h'.2.1)) ∧ (LV h'.2.1)) 0 215 [(0, .ref 70)] [] h := by
  obtain ⟨u70_5, u70_5w⟩ : ∃ v : Int32, v = h.2.1 70 5 := ⟨_, rfl⟩
  have u70_5e : (h.2.1 70 5).toInt = u70_5.toInt := by rw [u70_5w]
  have u70_5l : -2147483648 ≤ u70_5.toInt := by rw [u70_5w]; exact (hv.2.1 70 5).1
  have u70_5u : u70_5.toInt ≤ 2147483647 := by rw [u70_5w]; exact (hv.2.1 70 5).2
  refine go_aload_n (pc := 215) rfl dX8_program_215 ?_
  refine go_aload_n (pc := 216) rfl dX8_program_216 ?_
  refine gi_get (pc := 217) (lo := 0) (hi := 1) hv fL_X8_187 rfl (Nat.le_of_ble_eq_true rfl) rfl rfl dX8_program_217 (fun v1 v1l v1u v1w => ?_)
  refine gi_putG (pc := 220) (j := 29) hv (ti_rfl v1) (fP_X8_228 _) (Nat.le_of_ble_eq_true rfl) rfl rfl rfl (by omega) (by omega) (by decide) dX8_program_220 (fun h2 hv2 hv2e => ?_)
  refine go_aload_n (pc := 223) rfl dX8_program_223 ?_
  refine go_iconst (pc := 224) (v := 1) (by decide) dX8_program_224 ?_
  refine gi_putG (pc := 225) (j := 30) hv2 (ti_c (v := 1) (a := 1) (by decide)) (fP_X8_243 _) (Nat.le_of_ble_eq_true rfl) rfl (ti_nb (by rw [show (1 : Int32).toInt = 1 from (ti_c (v := 1) (a := 1) (by decide))]; omega) (by rw [show (1 : Int32).toInt = 1 from (ti_c (v := 1) (a := 1) (by decide))]; omega)) (ti_fb (by rw [show (1 : Int32).toInt = 1 from (ti_c (v := 1) (a := 1) (by decide))]; omega) (by rw [show (1 : Int32).toInt = 1 from (ti_c (v := 1) (a := 1) (by decide))]; omega)) (by omega) (by omega) (by decide) dX8_program_225 (fun h3 hv3 hv3e => ?_)
  refine go_aload_n (pc := 228) rfl dX8_program_228 ?_
  refine go_iconst (pc := 229) (v := 0) (by decide) dX8_program_229 ?_
  refine gi_put (pc := 230) (lo := 0) (hi := 1) hv3 (ti_c (v := 0) (a := 0) (by decide)) (fP_X8_247 _) rfl (Nat.le_of_ble_eq_true rfl) rfl rfl (by omega) (by omega) (ti_nb (by rw [show (0 : Int32).toInt = 0 from (ti_c (v := 0) (a := 0) (by decide))]; omega) (by rw [show (0 : Int32).toInt = 0 from (ti_c (v := 0) (a := 0) (by decide))]; omega)) (ti_fb (by rw [show (0 : Int32).toInt = 0 from (ti_c (v := 0) (a := 0) (by decide))]; omega) (by rw [show (0 : Int32).toInt = 0 from (ti_c (v := 0) (a := 0) (by decide))]; omega)) (by decide) (by decide) (by decide) (by decide) dX8_program_230 (fun h4 hv4 hv4e => ?_)
  refine go_aload_n (pc := 233) rfl dX8_program_233 ?_
  have vec : VE h.2.1 h4.2.1 := fun c j a b => by rw [hv4e, hv3e, hv2e]; show (if c = 70 ∧ j = 50 then _ else if c = 70 ∧ j = 30 then _ else if c = 70 ∧ j = 29 then _ else h.2.1 c j) = _; rw [if_neg (by omega), if_neg (by omega), if_neg (by omega)]
  have s6 : h4.2.1 70 6 = h.2.1 70 6 := by rw [hv4e, hv3e, hv2e]; rfl
  have s29 : h4.2.1 70 29 = h.2.1 70 6 := by rw [hv4e, hv3e, hv2e]; exact v1w
  refine go_invV (pc := 234) (sl := 0) (s_X8_laysAll l (d + 591) hv4 (CKF.ve vec ckf) (by rw [s6]; exact TR.ve vec hpb.1.1) (by rw [s6]; exact WI.ve vec hpb.2.2.2)) mL_X8_250 iM_X8_laysAll sM_X8_laysAll (hv4.sh rfl) rfl rfl rfl (Nat.le_of_ble_eq_true rfl) (show d + 591 + 8 + 1 ≤ d + 600 by omega) (show 8 + (2 + 11) + 40 * (d + 591 + 8) ≤ 40 * (d + 600) by omega) (g_c0 hv4.ln) (Nat.le_of_ble_eq_true rfl) dX8_program_234 ?_
  intro r h5 hq _
  obtain ⟨rfl, hv5⟩ := hq
  obtain ⟨u6, u6w⟩ : ∃ v : Int32, v = h5.2.1 70 5 := ⟨_, rfl⟩
  have u6e : (h5.2.1 70 5).toInt = u6.toInt := by rw [u6w]
  have u6l : -2147483648 ≤ u6.toInt := by rw [u6w]; exact (hv5.2.1 70 5).1
  have u6u : u6.toInt ≤ 2147483647 := by rw [u6w]; exact (hv5.2.1 70 5).2
  refine go_aload_n (pc := 237) rfl dX8_program_237 ?_
  refine gi_getF (pc := 238) (q := 75) hv5 fL_X8_23 rfl (Nat.le_of_ble_eq_true rfl) rfl (hv5.rf (by decide)) dX8_program_238 ?_
  refine go_aload_n (pc := 241) rfl dX8_program_241 ?_
  refine gi_get (pc := 242) (lo := 0) (hi := 1) hv5 fL_X8_228 rfl (Nat.le_of_ble_eq_true rfl) rfl rfl dX8_program_242 (fun v7 v7l v7u v7w => ?_)
  refine gi_iald (pc := 245) (lo := 0) (hi := 40) (len := 2) hv5 (ti_rfl v7) rfl (by omega) (by omega) (fun _ => rfl) dX8_program_245 (fun v8 v8l v8u v8w => ?_)
  exact gi_iret (pc := 246) (ti_rfl v8) ⟨_, rfl, (ti_lo _), (ti_hi _), ⟨_, hv5, (MW.trans (MW.mz _ _) (MW.mz _ _))⟩, (CKF.ve (VE.trans vec (VE.of hv4 hv5)) ckf), (fun _ => by rw [show h5.2.1 70 29 = h.2.1 70 6 from by rw [hv5.fy (j := 29) (by omega), ← hv4.fy (j := 29) (by omega)]; exact s29]; exact ⟨RD.ve (VE.trans vec (VE.of hv4 hv5)) hpb.1, TD.kx (KX.ve (m := 102) (by omega) (VE.trans vec (VE.of hv4 hv5))) (by omega) hpb.2.1, by rw [VE.v (VE.trans vec (VE.of hv4 hv5)) (by omega) (by omega)]; exact hpb.2.2.1⟩)⟩ hv5 dX8_program_246
set_option maxHeartbeats 4000000 in
set_option maxRecDepth 100000 in
theorem s_X8_program (l : Launch) (d : Nat) {P : PP} {h : HP} (hv : Iv P h) (ckf : CKF h.2.1) (hlv : LV h.2.1) : Mt l yX8_program cX8_program 2 (some .int) (d + 600) [.ref 70] h 0 0 (fun r h' => ∃ v : Int32, r = some (.int v) ∧ -2147483648 ≤ v.toInt ∧ v.toInt ≤ 2147483647 ∧ (∃ Q : PP, Iv Q h' ∧ PG P Q) ∧ ((CKF h'.2.1)) ∧ (LV h'.2.1)) := by
  refine Mt_iv hv (by decide) (Nat.le_of_ble_eq_true rfl) ?_
  show Go l RX8 cX8_program 2 (g_rm (d + 600) 0 0) "program" (some .int) 117 0 0 (fun _ _ => True) (fun r h' => ∃ v : Int32, r = some (.int v) ∧ -2147483648 ≤ v.toInt ∧ v.toInt ≤ 2147483647 ∧ (∃ Q : PP, Iv Q h' ∧ PG P Q) ∧ ((CKF h'.2.1)) ∧ (LV h'.2.1)) 0 0 [(0, .ref 70)] [] h
  have key : ∀ n : Nat, (∀ (l1 : Int32) (hx : HP), Iv P hx → 0 ≤ l1.toInt → l1.toInt ≤ 500 → (-2147483648 : Int) ≤ (hx.2.1 70 5).toInt → (hx.2.1 70 5).toInt ≤ 2147483647 → (600 - l1.toInt : Int) < n → Go l RX8 cX8_program 2 (g_rm (d + 600) 0 0) "program" (some .int) 117 0 0 (fun _ _ => True) (fun r h' => ∃ v : Int32, r = some (.int v) ∧ -2147483648 ≤ v.toInt ∧ v.toInt ≤ 2147483647 ∧ (∃ Q : PP, Iv Q h' ∧ PG P Q) ∧ ((CKF h'.2.1)) ∧ (LV h'.2.1)) 0 10 [(0, .ref 70), (1, .int l1)] [] hx) := by
    intro n
    induction n with
    | zero => exact (by intros; omega)
    | succ n ih =>
      refine ?_
      ·
        intro l1 hx hvx l1l l1u y0l y0u hm
        refine go_iload_n (pc := 10) rfl dX8_program_10 ?_
        refine go_aload_n (pc := 11) rfl dX8_program_11 ?_
        refine gi_get (pc := 12) (lo := 0) (hi := 500) hvx fL_X8_166 rfl (Nat.le_of_ble_eq_true rfl) rfl rfl dX8_program_12 (fun v1 v1l v1u v1w => ?_)
        refine gf_icmp_ge (pc := 15) (tgt := 36) (ti_rfl l1) (ti_rfl v1) (by decide) dX8_program_15 (fun q2 => ?_) (fun q2 => ?_)
        ·
          refine go_aload_n (pc := 36) rfl dX8_program_36 ?_
          refine go_iconst (pc := 37) (v := 0) (by decide) dX8_program_37 ?_
          refine gi_put1 (pc := 38) hvx (ti_c (v := 0) (a := 0) (by decide)) (fP_X8_151 _) (by omega) (by omega) dX8_program_38 (fun h3 hv3 hv3e => ?_)
          have z4 : (0 : Int32).toInt = 0 := (ti_c (v := 0) (a := 0) (by decide))
          refine go_aload_n (pc := 41) rfl dX8_program_41 ?_
          refine go_iconst (pc := 42) (v := 0) (by decide) dX8_program_42 ?_
          refine gi_put (pc := 43) (lo := 0) (hi := 500) hv3 (ti_c (v := 0) (a := 0) (by decide)) (fP_X8_163 _) rfl (Nat.le_of_ble_eq_true rfl) rfl rfl (by omega) (by omega) rfl rfl (by decide) (by decide) (by decide) (by decide) dX8_program_43 (fun h5 hv5 hv5e => ?_)
          refine go_aload_n (pc := 46) rfl dX8_program_46 ?_
          refine go_iconst (pc := 47) (v := 0) (by decide) dX8_program_47 ?_
          refine gi_put (pc := 48) (lo := -2147483648) (hi := 2147483647) hv5 (ti_c (v := 0) (a := 0) (by decide)) (fP_X8_169 _) rfl (Nat.le_of_ble_eq_true rfl) rfl rfl (ti_ge (ti_c (v := 0) (a := 0) (by decide))) (ti_le2 (ti_c (v := 0) (a := 0) (by decide))) rfl rfl (by decide) (by decide) (by decide) (by decide) dX8_program_48 (fun h6 hv6 hv6e => ?_)
          refine go_aload_n (pc := 51) rfl dX8_program_51 ?_
          refine go_iconst (pc := 52) (v := 1) (by decide) dX8_program_52 ?_
          refine go_aload_n (pc := 53) rfl dX8_program_53 ?_
          refine gi_get (pc := 54) (lo := 0) (hi := 1) hv6 fL_X8_228 rfl (Nat.le_of_ble_eq_true rfl) rfl rfl dX8_program_54 (fun v7 v7l v7u v7w => ?_)
          refine gf_isub (pc := 57) (ti_c (v := 1) (a := 1) (by decide)) (ti_rfl v7) (by omega) (by omega) dX8_program_57 (fun v8 e9 => ?_)
          refine gi_putG (pc := 58) (j := 6) hv6 e9 (fP_X8_187 _) (Nat.le_of_ble_eq_true rfl) rfl rfl rfl (by omega) (by omega) (by decide) dX8_program_58 (fun h10 hv10 hv10e => ?_)
          have ve61 : VE h.2.1 h10.2.1 := VE.trans (VE.of hv hvx) (fun c j a b => by rw [hv10e, hv6e, hv5e, hv3e]; show (if c = 70 ∧ j = 6 then _ else if c = 70 ∧ j = 5 then _ else if c = 70 ∧ j = 4 then _ else if c = 70 ∧ j = 2 then _ else hx.2.1 c j) = _; rw [if_neg (by omega), if_neg (by omega), if_neg (by omega), if_neg (by omega)])
          have e29 : h10.2.1 70 29 = h.2.1 70 29 := by rw [hv10e, hv6e, hv5e, hv3e]; show hx.2.1 70 29 = _; rw [hvx.fy (j := 29) (by omega), ← hv.fy (j := 29) (by omega)]
          have e30 : h10.2.1 70 30 = h.2.1 70 30 := by rw [hv10e, hv6e, hv5e, hv3e]; show hx.2.1 70 30 = _; rw [hvx.fy (j := 30) (by omega), ← hv.fy (j := 30) (by omega)]
          have a6 : h10.2.1 70 6 = v8 := by rw [hv10e]; rfl
          have a29 : h10.2.1 70 29 = v7 := by rw [hv10e]; exact v7w.symm
          have zq : v8.toInt = (1 - v7.toInt) := e9
          have f0 : (h10.2.1 70 5).toInt = 0 := by rw [hv10e, hv6e]; show (0 : Int32).toInt = 0; decide
          refine go_post ?_ (s_X8_program_b l d hv10 (CKF.ve ve61 ckf) (LV.cong ve61 e29 e30 hlv) f0 (by rw [a6, a29, zq]; omega))
          intro r h' q
          obtain ⟨v, a, b, c, ⟨Q, e1, e2⟩, f1, f2⟩ := q
          exact ⟨v, a, b, c, ⟨Q, e1, e2.1, by rw [e2.2.1]; show (0 : Int32).toInt = 0; decide, e2.2.2.1, e2.2.2.2⟩, f1, f2⟩
        ·
          refine go_aload_n (pc := 18) rfl dX8_program_18 ?_
          refine gi_getF (pc := 19) (q := 72) hvx fL_X8_13 rfl (Nat.le_of_ble_eq_true rfl) rfl (hvx.rf (by decide)) dX8_program_19 ?_
          refine go_iload_n (pc := 22) rfl dX8_program_22 ?_
          refine go_aload_n (pc := 23) rfl dX8_program_23 ?_
          refine gi_getF (pc := 24) (q := 71) hvx fL_X8_7 rfl (Nat.le_of_ble_eq_true rfl) rfl (hvx.rf (by decide)) dX8_program_24 ?_
          refine go_iload_n (pc := 27) rfl dX8_program_27 ?_
          refine gi_bald (pc := 28) (lo := -128) (hi := 127) (len := 500) hvx (ti_rfl l1) rfl (by omega) (by omega) (fun _ => rfl) dX8_program_28 (fun v11 v11l v11u v11w => ?_)
          refine gi_bast (pc := 29) (len := 500) hvx (ti_rfl l1) rfl (by omega) (by omega) (fun _ => rfl) (by decide) dX8_program_29 (fun h12 hv12 hv12e => ?_)
          refine gf_iinc (pc := 30) (Nat.le_of_ble_eq_true rfl) rfl (ti_rfl l1) (ti_c (by decide)) (by omega) (by omega) dX8_program_30 (fun v13 e14 => ?_)
          refine go_lv (lv2 := [(0, .ref 70), (1, .int v13)]) rfl ?_
          refine go_goto (pc := 33) (tgt := 10) (by decide) dX8_program_33 ?_
          have z15 : (v13 : Int32).toInt = (l1.toInt + 1) := e14
          have g16 : (-2147483648 : Int) ≤ (h12.2.1 70 5).toInt := (hv12.2.1 70 5).1
          have g17 : (h12.2.1 70 5).toInt ≤ 2147483647 := (hv12.2.1 70 5).2
          exact go_lv rfl (ih v13 h12 hv12 (by omega) (by omega) (by omega) (by omega) (by omega))
  obtain ⟨u70_5, u70_5w⟩ : ∃ v : Int32, v = h.2.1 70 5 := ⟨_, rfl⟩
  have u70_5e : (h.2.1 70 5).toInt = u70_5.toInt := by rw [u70_5w]
  have u70_5l : -2147483648 ≤ u70_5.toInt := by rw [u70_5w]; exact (hv.2.1 70 5).1
  have u70_5u : u70_5.toInt ≤ 2147483647 := by rw [u70_5w]; exact (hv.2.1 70 5).2
  refine go_aload_n (pc := 0) rfl dX8_program_0 ?_
  refine go_aload_n (pc := 1) rfl dX8_program_1 ?_
  refine gi_get (pc := 2) (lo := 0) (hi := 500) hv fL_X8_151 rfl (Nat.le_of_ble_eq_true rfl) rfl rfl dX8_program_2 (fun v18 v18l v18u v18w => ?_)
  have v18p : v18.toInt = P.2.1.toInt := by rw [v18w]; exact congrArg Int32.toInt hv.t1
  refine gi_put (pc := 5) (lo := 0) (hi := 500) hv (ti_rfl v18) (fP_X8_166 _) rfl (Nat.le_of_ble_eq_true rfl) rfl rfl (by omega) (by omega) rfl rfl (by decide) (by decide) (by decide) (by decide) dX8_program_5 (fun h19 hv19 hv19e => ?_)
  refine go_iconst (pc := 8) (v := 0) (by decide) dX8_program_8 ?_
  refine go_istore_n (pc := 9) (Nat.le_of_ble_eq_true rfl) dX8_program_9 (go_lv (lv2 := [(0, .ref 70), (1, .int 0)]) rfl ?_)
  have z20 : (0 : Int32).toInt = 0 := (ti_c (v := 0) (a := 0) (by decide))
  have g21 : (-2147483648 : Int) ≤ (h19.2.1 70 5).toInt := (hv19.2.1 70 5).1
  have g22 : (h19.2.1 70 5).toInt ≤ 2147483647 := (hv19.2.1 70 5).2
  have g23 : (h19.2.1 70 5).toInt = u70_5.toInt := by rw [← (show u70_5 = h19.2.1 70 5 from (show u70_5 = h19.2.1 70 5 from by rw [hv19e]; exact (g_iI rfl u70_5w.symm).symm))] <;> exact (ti_rfl u70_5)
  exact go_lv rfl ((key 2001) 0 h19 hv19 (by omega) (by omega) (by omega) (by omega) (by omega))
