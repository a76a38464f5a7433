/-! one half of the tree -/
def HE (F G : FN) (s : Int) : Prop := ∀ (c j : Nat), 73 ≤ c → c ≤ 102 → wd c * s ≤ (j : Int) → (j : Int) < wd c * s + wd c → G c j = F c j
theorem HE.oh {F G : FN} {s t : Int} (h : OH F G t) (h0 : 0 ≤ s) (h1 : 0 ≤ t) (e : s + t = 1) : HE F G s := fun c j a b p q => by
  have w : 0 < wd c := by unfold wd; (repeat' split) <;> omega
  refine h.1 c j a b (fun z => ?_)
  have hs : (s = 0 ∧ t = 1) ∨ (s = 1 ∧ t = 0) := by omega
  rcases hs with ⟨rfl, rfl⟩ | ⟨rfl, rfl⟩
  · rw [Int.mul_zero] at p q; rw [Int.mul_one] at z; omega
  · rw [Int.mul_one] at p q; rw [Int.mul_zero] at z; omega
theorem HE.v {F G : FN} {s i : Int} {c : Nat} (w : Int) (h : HE F G s) (hw : wd c = w) (h1 : 73 ≤ c) (h2 : c ≤ 102) (h0 : 0 ≤ i) (p : w * s ≤ i) (q : i < w * s + w) : V G c i = V F c i := by
  unfold V
  rw [h c _ h1 h2 (by rw [hw]; omega) (by rw [hw]; omega)]
theorem II.he {F G : FN} {s i : Int} (h : HE F G s) (h0 : 0 ≤ s) : II G s i ↔ II F s i := by
  unfold II
  rw [h.v 1 (c := 73) rfl (by omega) (by omega) h0 (by omega) (by omega)]
theorem BB.he {F G : FN} {s i : Int} (h : HE F G s) (h0 : 0 ≤ s) : BB G s i ↔ BB F s i := by
  unfold BB
  rw [h.v 1 (c := 74) rfl (by omega) (by omega) h0 (by omega) (by omega)]
theorem TR.he {F G : FN} {s : Int} (h : HE F G s) (h0 : 0 ≤ s) (b3 : V F 73 s ≤ 130) (b4 : V F 74 s ≤ 280) (b5 : V F 75 s ≤ 40) (t : TR F s) : TR G s := by
  obtain ⟨⟨p1, p2, p3⟩, a1, a2, a3, a4, a5, a6⟩ := t
  have e73 : V G 73 s = V F 73 s := h.v 1 rfl (by omega) (by omega) h0 (by omega) (by omega)
  have e74 : V G 74 s = V F 74 s := h.v 1 rfl (by omega) (by omega) h0 (by omega) (by omega)
  have e75 : V G 75 s = V F 75 s := h.v 1 rfl (by omega) (by omega) h0 (by omega) (by omega)
  have eI : ∀ (c : Nat) (i : Int), wd c = 130 → 73 ≤ c → c ≤ 102 → II F s i → V G c i = V F c i := fun c i w q1 q2 hi => by
    have x1 := hi.1
    have x2 := hi.2
    exact h.v 130 w q1 q2 (by omega) (by omega) (by omega)
  have eB : ∀ (c : Nat) (i : Int), wd c = 280 → 73 ≤ c → c ≤ 102 → BB F s i → V G c i = V F c i := fun c i w q1 q2 hi => by
    have x1 := hi.1
    have x2 := hi.2
    exact h.v 280 w q1 q2 (by omega) (by omega) (by omega)
  have e9 : ∀ i : Int, II F s i → V G 89 (2 * i) = V F 89 (2 * i) ∧ V G 89 (2 * i + 1) = V F 89 (2 * i + 1) := fun i hi => by
    have x1 := hi.1
    have x2 := hi.2
    exact ⟨h.v 260 rfl (by omega) (by omega) (by omega) (by omega) (by omega), h.v 260 rfl (by omega) (by omega) (by omega) (by omega) (by omega)⟩
  have e93 : ∀ k : Int, 0 ≤ k → k < V F 75 s → V G 93 (40 * s + k) = V F 93 (40 * s + k) := fun k x1 x2 => h.v 40 rfl (by omega) (by omega) (by omega) (by omega) (by omega)
  refine ⟨⟨by omega, by omega, by omega⟩, fun i hi => ?_, fun i hi => ?_, fun i hi => ?_, fun i hi => ?_, fun b hb => ?_, fun k h1 h2 => ?_⟩
  · have hF := (II.he h h0).mp hi
    have w := a1 i hF
    unfold T1 at *
    rw [eI 87 i rfl (by omega) (by omega) hF, e73, eI 88 i rfl (by omega) (by omega) hF]
    rcases w with w | ⟨w1, w2, w3⟩
    · exact Or.inl w
    · refine Or.inr ⟨w1, w2, ?_⟩
      rw [eI 88 _ rfl (by omega) (by omega) ⟨by have := hF.1; omega, w2⟩]
      exact w3
  · have hF := (II.he h h0).mp hi
    have w := a2 i hF
    unfold T2 at *
    rw [eI 88 i rfl (by omega) (by omega) hF, BB.he h h0, eB 92 _ rfl (by omega) (by omega) w.1, eI 80 i rfl (by omega) (by omega) hF]
    refine ⟨w.1, ?_⟩
    rcases w.2 with q | ⟨q1, q2, q3, q4⟩
    · exact Or.inl q
    · have x2 := hF.2
      refine Or.inr ⟨q1, q2, ?_, fun k w1 w2 => ?_⟩
      · rw [eI 80 _ rfl (by omega) (by omega) ⟨q1, by omega⟩]; exact q3
      · rw [eI 80 k rfl (by omega) (by omega) ⟨by omega, by omega⟩]; exact q4 k w1 w2
  · have hF := (II.he h h0).mp hi
    have w := a3 i hF
    have n9 := e9 i hF
    unfold T3 at *
    rw [eI 77 i rfl (by omega) (by omega) hF, eI 78 i rfl (by omega) (by omega) hF, eI 82 i rfl (by omega) (by omega) hF, n9.1, n9.2, e75]
    refine ⟨fun q => ?_, w.2⟩
    obtain ⟨w1, w2, w3⟩ := w.1 q
    exact ⟨w1, w2, by rw [e93 _ w1 w2]; exact w3⟩
  · have hF := (II.he h h0).mp hi
    have w := a4 i hF
    unfold T4 at *
    rw [eI 85 i rfl (by omega) (by omega) hF, eI 86 i rfl (by omega) (by omega) hF, BB.he h h0, BB.he h h0]
    refine ⟨?_, ?_⟩
    · rcases w.1 with q | ⟨q1, q2⟩
      · exact Or.inl q
      · exact Or.inr ⟨q1, by rw [eB 92 _ rfl (by omega) (by omega) q1]; exact q2⟩
    · rcases w.2 with q | ⟨q1, q2⟩
      · exact Or.inl q
      · exact Or.inr ⟨q1, by rw [eB 92 _ rfl (by omega) (by omega) q1]; exact q2⟩
  · have hF := (BB.he h h0).mp hb
    have w := a5 b hF
    unfold T5 at *
    rw [eB 90 b rfl (by omega) (by omega) hF, eB 91 b rfl (by omega) (by omega) hF, eB 92 b rfl (by omega) (by omega) hF, II.he h h0, II.he h h0, II.he h h0]
    refine ⟨?_, ?_, w.2.2⟩
    · rcases w.1 with q | ⟨q1, q2⟩
      · exact Or.inl q
      · exact Or.inr ⟨q1, by rw [eI 88 _ rfl (by omega) (by omega) q1]; exact q2⟩
    · rcases w.2.1 with q | ⟨q1, q2⟩
      · exact Or.inl q
      · exact Or.inr ⟨q1, by rw [eI 88 _ rfl (by omega) (by omega) q1]; exact q2⟩
  · rw [e75] at h2
    rw [II.he h h0, e93 k h1 h2]
    exact a6 k h1 h2
theorem RD.he {F G : FN} {s : Int} (h : HE F G s) (h0 : 0 ≤ s) (b3 : V F 73 s ≤ 130) (b4 : V F 74 s ≤ 280) (b5 : V F 75 s ≤ 40) (b6 : V F 76 s ≤ 5) (r : RD F s) : RD G s := by
  obtain ⟨t, cn, wh⟩ := r
  have e73 : V G 73 s = V F 73 s := h.v 1 rfl (by omega) (by omega) h0 (by omega) (by omega)
  have e76 : V G 76 s = V F 76 s := h.v 1 rfl (by omega) (by omega) h0 (by omega) (by omega)
  refine ⟨t.he h h0 b3 b4 b5, fun j h1 h2 => ?_, fun p h1 h2 => ?_⟩
  · rw [e73] at h2
    have w := cn j h1 h2
    have e : ∀ c : Nat, wd c = 130 → 73 ≤ c → c ≤ 102 → V G c j = V F c j := fun c q q1 q2 => h.v 130 q q1 q2 (by omega) (by omega) (by omega)
    unfold CC at *
    rw [e 80 rfl (by omega) (by omega), e 77 rfl (by omega) (by omega), e 82 rfl (by omega) (by omega), e 85 rfl (by omega) (by omega), e 86 rfl (by omega) (by omega)]
    exact w
  · rw [e76] at h2
    have w := wh p h1 h2
    have e94 : V G 94 (5 * s + p) = V F 94 (5 * s + p) := h.v 5 rfl (by omega) (by omega) (by omega) (by omega) (by omega)
    have x1 := w.1.1
    have x2 := w.1.2
    rw [e94, BB.he h h0, h.v 280 (c := 92) rfl (by omega) (by omega) (by omega) (by omega) (by omega)]
    exact w
theorem TD.he {F G : FN} {s : Int} (h : HE F G s) (h0 : 0 ≤ s) (b3 : V F 73 s ≤ 130) (b5 : V F 75 s ≤ 40) (t : TR F s) (d : TD F s) : TD G s := fun k h1 h2 => by
  have e75 : V G 75 s = V F 75 s := h.v 1 rfl (by omega) (by omega) h0 (by omega) (by omega)
  rw [e75] at h2
  have i := t.2.2.2.2.2.2 k h1 h2
  have x1 := i.1
  have x2 := i.2
  rw [h.v 40 (c := 93) rfl (by omega) (by omega) (by omega) (by omega) (by omega), h.v 130 (c := 84) rfl (by omega) (by omega) (by omega) (by omega) (by omega), h.v 1 (c := 76) rfl (by omega) (by omega) h0 (by omega) (by omega)]
  exact d k h1 h2
/-- what lives stays as the other half is read anew -/
theorem LV.oh {P : PP} {h : HP} {G : FN} {t : Int} (hv : Iv P h) (o : OH h.2.1 G t) (h1 : 0 ≤ t) (e : (h.2.1 70 29).toInt + t = 1) (l : LV h.2.1) : LV G := fun q => by
  have e29 : G 70 29 = h.2.1 70 29 := o.2.2.1
  have e30 : G 70 30 = h.2.1 70 30 := o.2.2.2
  rw [e30] at q
  obtain ⟨w1, w2, w3⟩ := l q
  have h0 : 0 ≤ (h.2.1 70 29).toInt := (hv.2.1 70 29).1
  have he := HE.oh (s := (h.2.1 70 29).toInt) o h0 h1 e
  have b3 : V h.2.1 73 (h.2.1 70 29).toInt ≤ 130 := (hv.2.1 73 _).2
  have b4 : V h.2.1 74 (h.2.1 70 29).toInt ≤ 280 := (hv.2.1 74 _).2
  have b5 : V h.2.1 75 (h.2.1 70 29).toInt ≤ 40 := (hv.2.1 75 _).2
  have b6 : V h.2.1 76 (h.2.1 70 29).toInt ≤ 5 := (hv.2.1 76 _).2
  rw [e29]
  refine ⟨w1.he he h0 b3 b4 b5 b6, TD.he he h0 b3 b5 w1.1 w2, ?_⟩
  rw [he.v 1 (c := 76) rfl (by omega) (by omega) h0 (by omega) (by omega)]
  exact w3
theorem go_post {l : Launch} {own : String} {cc : ByteArray} {nL : Nat} {R : Room} {nm : String} {rt : Option FieldType} {n0 mc ms : Nat} {Xf : Nat → State → Prop} {Qf Qg : Option Value → HP → Prop} {sl pc : Nat} {lv : List (Nat × Value)} {st : List Value} {h : HP} (hq : ∀ r h', Qf r h' → Qg r h') (g : Go l own cc nL R nm rt n0 mc ms Xf Qf sl pc lv st h) : Go l own cc nL R nm rt n0 mc ms Xf Qg sl pc lv st h :=
  fun p e s m args below meth c D cy zb Q H locs ls C E => g p e s m args below meth c D cy zb Q H locs ls C (fun r h' H locs pc ls hr => E r h' H locs pc ls (hq r h' hr))
theorem Iv.putG {P : PP} {h : HP} {j : Nat} {x : Int32} {a : Int} (hi : Iv P h) (ex : TI x a) (h1 : 0 ≤ a) (h2 : a ≤ 1) (hj : j = 6 ∨ j = 29 ∨ j = 30) : Iv (mz P (hI h 70 j x)) (hI h 70 j x) := by
  obtain ⟨q1, q2, q3, q4, q5, q6, q7, q8, q9, q10, q12⟩ := hi
  refine ⟨q1, fun c' j' => ?_, q3, q4, q5, fun c' hc' j' => ?_, q7, ?_, fun c' hc' j' => ?_, q10, fun c' j' hc' => _root_.rfl⟩
  · show (rg c' j').1 ≤ (if c' = 70 ∧ j' = j then x else h.2.1 c' j').toInt ∧ (if c' = 70 ∧ j' = j then x else h.2.1 c' j').toInt ≤ (rg c' j').2
    by_cases e : c' = 70 ∧ j' = j
    · rw [if_pos e, e.1, e.2, show x.toInt = a from ex]
      rcases hj with rfl | rfl | rfl <;> exact ⟨h1, h2⟩
    · rw [if_neg e]; exact q2 c' j'
  · show (if c' + 2 = 70 ∧ j' = j then x else h.2.1 (c' + 2) j').toInt = 1 → 0 ≤ (if c' + 7 = 70 ∧ j' = j then x else h.2.1 (c' + 7) j').toInt
    rw [if_neg (by omega), if_neg (by omega)]
    exact q6 c' hc' j'
  · show (if 70 = 70 ∧ 2 = j then x else h.2.1 70 2) = _
    rw [if_neg (by omega)]; exact q8
  · show (if c' = 70 ∧ j' = j then x else h.2.1 c' j') = _
    rw [if_neg (by omega)]; exact q9 c' hc' j'
theorem gi_putG {l : Launch} {own : String} {cc : ByteArray} {nL : Nat} {R : Room} {nm : String} {rt : Option FieldType} {n0 mc ms : Nat} {Xf : Nat → State → Prop} {Qf : Option Value → HP → Prop} {sl pc : Nat} {lv : List (Nat × Value)} {st : List Value} {h : HP} {P : PP} {idx j : Nat} {x : Int32} {a : Int} (hv : Iv P h) (ex : TI x a) (hf : FP own nm idx 8 j) (hi2 : j < 60) (hty : g_kind (g_ty 8 j) = 0) (hna : narrow (g_ty 8 j) (.int x) = .int x) (hfi : fits (g_ty 8 j) (.int x) = true) (h1 : 0 ≤ a) (h2 : a ≤ 1) (hj : j = 6 ∨ j = 29 ∨ j = 30) (hd : decode cc pc = .ok (.putfield idx, 3)) (k : ∀ h' : HP, Iv (mz P h') h' → h' = hI h 70 j x → Go l own cc nL R nm rt n0 mc ms Xf Qf sl (pc + 3) lv st h') : Go l own cc nL R nm rt n0 mc ms Xf Qf sl pc lv (.int x :: .ref 70 :: st) h :=
  go_putI hf (hv.sh rfl) hi2 hty (fun _ => hna) (fun _ => hfi) hd (k _ (hv.putG ex h1 h2 hj) rfl)
/-- what is told of a program that is read well -/
def PB (F : FN) (s : Int) : Prop := RD F s ∧ TD F s ∧ 1 ≤ V F 76 s ∧ WI F s
theorem PB.kx {m : Nat} {F G : FN} (h : KX m F G) (hm : 100 ≤ m) {s : Int} (p : PB F s) : PB G s := by
  refine ⟨p.1.kx h (by omega), p.2.1.kx h (by omega), ?_, fun k a b q => ?_⟩
  · rw [h.v (by omega) (by omega)]; exact p.2.2.1
  · rw [h.v (c := 75) (by omega) (by omega)] at b
    rw [h.v (c := 77) (by omega) (by omega), h.v (c := 93) (by omega) (by omega)] at q
    rw [h.v (c := 96) (by omega) (by omega)]
    exact p.2.2.2 k a b q
theorem PB.ways {F G : FN} {s : Int} (h : KX 94 F G) (r : RD F s) (t : TD F s) (o : 1 ≤ V F 76 s) (w : WJ F G s (V F 75 s)) : PB G s := by
  refine ⟨r.kx h (by omega), t.kx h (by omega), ?_, fun k a b q => ?_⟩
  · rw [h.v (by omega) (by omega)]; exact o
  · rw [h.v (c := 75) (by omega) (by omega)] at b
    rw [h.v (c := 77) (by omega) (by omega), h.v (c := 93) (by omega) (by omega)] at q
    exact w k a b q
abbrev MC (P Q : PP) : Prop := MW P Q
/-- what the reference's program keeps of P -/
def PG (P Q : PP) : Prop := Q.1 = P.1 ∧ Q.2.1.toInt = 0 ∧ Q.2.2.1 = P.2.2.1 ∧ Q.2.2.2.1 = P.2.2.2.1
theorem dX8_program_0 : decode cX8_program 0 = .ok (.aload_n 0, 1) := by decide +kernel
theorem dX8_program_1 : decode cX8_program 1 = .ok (.aload_n 0, 1) := by decide +kernel
theorem dX8_program_2 : decode cX8_program 2 = .ok (.getfield 151, 3) := by decide +kernel
theorem dX8_program_5 : decode cX8_program 5 = .ok (.putfield 166, 3) := by decide +kernel
theorem dX8_program_8 : decode cX8_program 8 = .ok (.iconst 0, 1) := by decide +kernel
theorem dX8_program_9 : decode cX8_program 9 = .ok (.istore_n 1, 1) := by decide +kernel
theorem dX8_program_10 : decode cX8_program 10 = .ok (.iload_n 1, 1) := by decide +kernel
theorem dX8_program_11 : decode cX8_program 11 = .ok (.aload_n 0, 1) := by decide +kernel
theorem dX8_program_12 : decode cX8_program 12 = .ok (.getfield 166, 3) := by decide +kernel
theorem dX8_program_15 : decode cX8_program 15 = .ok (.if_icmp .ge 21, 3) := by decide +kernel
theorem dX8_program_18 : decode cX8_program 18 = .ok (.aload_n 0, 1) := by decide +kernel
theorem dX8_program_19 : decode cX8_program 19 = .ok (.getfield 13, 3) := by decide +kernel
theorem dX8_program_22 : decode cX8_program 22 = .ok (.iload_n 1, 1) := by decide +kernel
theorem dX8_program_23 : decode cX8_program 23 = .ok (.aload_n 0, 1) := by decide +kernel
theorem dX8_program_24 : decode cX8_program 24 = .ok (.getfield 7, 3) := by decide +kernel
theorem dX8_program_27 : decode cX8_program 27 = .ok (.iload_n 1, 1) := by decide +kernel
theorem dX8_program_28 : decode cX8_program 28 = .ok (.baload, 1) := by decide +kernel
theorem dX8_program_29 : decode cX8_program 29 = .ok (.bastore, 1) := by decide +kernel
theorem dX8_program_30 : decode cX8_program 30 = .ok (.iinc 1 1, 3) := by decide +kernel
theorem dX8_program_33 : decode cX8_program 33 = .ok (.goto (-23), 3) := by decide +kernel
theorem dX8_program_36 : decode cX8_program 36 = .ok (.aload_n 0, 1) := by decide +kernel
theorem dX8_program_37 : decode cX8_program 37 = .ok (.iconst 0, 1) := by decide +kernel
theorem dX8_program_38 : decode cX8_program 38 = .ok (.putfield 151, 3) := by decide +kernel
theorem dX8_program_41 : decode cX8_program 41 = .ok (.aload_n 0, 1) := by decide +kernel
theorem dX8_program_42 : decode cX8_program 42 = .ok (.iconst 0, 1) := by decide +kernel
theorem dX8_program_43 : decode cX8_program 43 = .ok (.putfield 163, 3) := by decide +kernel
theorem dX8_program_46 : decode cX8_program 46 = .ok (.aload_n 0, 1) := by decide +kernel
theorem dX8_program_47 : decode cX8_program 47 = .ok (.iconst 0, 1) := by decide +kernel
theorem dX8_program_48 : decode cX8_program 48 = .ok (.putfield 169, 3) := by decide +kernel
theorem dX8_program_51 : decode cX8_program 51 = .ok (.aload_n 0, 1) := by decide +kernel
theorem dX8_program_52 : decode cX8_program 52 = .ok (.iconst 1, 1) := by decide +kernel
theorem dX8_program_53 : decode cX8_program 53 = .ok (.aload_n 0, 1) := by decide +kernel
theorem dX8_program_54 : decode cX8_program 54 = .ok (.getfield 228, 3) := by decide +kernel
theorem dX8_program_57 : decode cX8_program 57 = .ok (.isub, 1) := by decide +kernel
theorem dX8_program_58 : decode cX8_program 58 = .ok (.putfield 187, 3) := by decide +kernel
theorem dX8_program_61 : decode cX8_program 61 = .ok (.aload_n 0, 1) := by decide +kernel
theorem dX8_program_62 : decode cX8_program 62 = .ok (.getfield 16, 3) := by decide +kernel
theorem dX8_program_65 : decode cX8_program 65 = .ok (.aload_n 0, 1) := by decide +kernel
theorem dX8_program_66 : decode cX8_program 66 = .ok (.getfield 187, 3) := by decide +kernel
theorem dX8_program_69 : decode cX8_program 69 = .ok (.iconst 0, 1) := by decide +kernel
theorem dX8_program_70 : decode cX8_program 70 = .ok (.iastore, 1) := by decide +kernel
theorem dX8_program_71 : decode cX8_program 71 = .ok (.aload_n 0, 1) := by decide +kernel
theorem dX8_program_72 : decode cX8_program 72 = .ok (.getfield 20, 3) := by decide +kernel
theorem dX8_program_75 : decode cX8_program 75 = .ok (.aload_n 0, 1) := by decide +kernel
theorem dX8_program_76 : decode cX8_program 76 = .ok (.getfield 187, 3) := by decide +kernel
theorem dX8_program_79 : decode cX8_program 79 = .ok (.iconst 0, 1) := by decide +kernel
theorem dX8_program_80 : decode cX8_program 80 = .ok (.iastore, 1) := by decide +kernel
theorem dX8_program_81 : decode cX8_program 81 = .ok (.aload_n 0, 1) := by decide +kernel
theorem dX8_program_82 : decode cX8_program 82 = .ok (.getfield 23, 3) := by decide +kernel
theorem dX8_program_85 : decode cX8_program 85 = .ok (.aload_n 0, 1) := by decide +kernel
theorem dX8_program_86 : decode cX8_program 86 = .ok (.getfield 187, 3) := by decide +kernel
theorem dX8_program_89 : decode cX8_program 89 = .ok (.iconst 0, 1) := by decide +kernel
theorem dX8_program_90 : decode cX8_program 90 = .ok (.iastore, 1) := by decide +kernel
theorem dX8_program_91 : decode cX8_program 91 = .ok (.aload_n 0, 1) := by decide +kernel
theorem dX8_program_92 : decode cX8_program 92 = .ok (.getfield 26, 3) := by decide +kernel
theorem dX8_program_95 : decode cX8_program 95 = .ok (.aload_n 0, 1) := by decide +kernel
theorem dX8_program_96 : decode cX8_program 96 = .ok (.getfield 187, 3) := by decide +kernel
theorem dX8_program_99 : decode cX8_program 99 = .ok (.iconst 0, 1) := by decide +kernel
theorem dX8_program_100 : decode cX8_program 100 = .ok (.iastore, 1) := by decide +kernel
theorem dX8_program_101 : decode cX8_program 101 = .ok (.aload_n 0, 1) := by decide +kernel
theorem dX8_program_102 : decode cX8_program 102 = .ok (.invokevirtual 231, 3) := by decide +kernel
theorem dX8_program_105 : decode cX8_program 105 = .ok (.aload_n 0, 1) := by decide +kernel
theorem dX8_program_106 : decode cX8_program 106 = .ok (.invokevirtual 172, 3) := by decide +kernel
theorem dX8_program_109 : decode cX8_program 109 = .ok (.ifCond .eq 15, 3) := by decide +kernel
theorem dX8_program_112 : decode cX8_program 112 = .ok (.aload_n 0, 1) := by decide +kernel
theorem dX8_program_113 : decode cX8_program 113 = .ok (.invokevirtual 234, 3) := by decide +kernel
theorem dX8_program_116 : decode cX8_program 116 = .ok (.ifCond .ne 8, 3) := by decide +kernel
theorem dX8_program_119 : decode cX8_program 119 = .ok (.aload_n 0, 1) := by decide +kernel
theorem dX8_program_120 : decode cX8_program 120 = .ok (.iconst 5, 1) := by decide +kernel
theorem dX8_program_121 : decode cX8_program 121 = .ok (.invokevirtual 180, 3) := by decide +kernel
theorem dX8_program_124 : decode cX8_program 124 = .ok (.aload_n 0, 1) := by decide +kernel
theorem dX8_program_125 : decode cX8_program 125 = .ok (.invokevirtual 172, 3) := by decide +kernel
theorem dX8_program_128 : decode cX8_program 128 = .ok (.ifCond .eq 77, 3) := by decide +kernel
theorem dX8_program_131 : decode cX8_program 131 = .ok (.aload_n 0, 1) := by decide +kernel
theorem dX8_program_132 : decode cX8_program 132 = .ok (.invokevirtual 237, 3) := by decide +kernel
theorem dX8_program_135 : decode cX8_program 135 = .ok (.aload_n 0, 1) := by decide +kernel
theorem dX8_program_136 : decode cX8_program 136 = .ok (.invokevirtual 240, 3) := by decide +kernel
theorem dX8_program_139 : decode cX8_program 139 = .ok (.iconst 0, 1) := by decide +kernel
theorem dX8_program_140 : decode cX8_program 140 = .ok (.istore_n 1, 1) := by decide +kernel
theorem dX8_program_141 : decode cX8_program 141 = .ok (.iload_n 1, 1) := by decide +kernel
theorem dX8_program_142 : decode cX8_program 142 = .ok (.aload_n 0, 1) := by decide +kernel
theorem dX8_program_143 : decode cX8_program 143 = .ok (.getfield 26, 3) := by decide +kernel
theorem dX8_program_146 : decode cX8_program 146 = .ok (.aload_n 0, 1) := by decide +kernel
theorem dX8_program_147 : decode cX8_program 147 = .ok (.getfield 187, 3) := by decide +kernel
theorem dX8_program_150 : decode cX8_program 150 = .ok (.iaload, 1) := by decide +kernel
theorem dX8_program_151 : decode cX8_program 151 = .ok (.if_icmp .ge 54, 3) := by decide +kernel
theorem dX8_program_154 : decode cX8_program 154 = .ok (.aload_n 0, 1) := by decide +kernel
theorem dX8_program_155 : decode cX8_program 155 = .ok (.invokevirtual 172, 3) := by decide +kernel
theorem dX8_program_158 : decode cX8_program 158 = .ok (.ifCond .eq 35, 3) := by decide +kernel
theorem dX8_program_161 : decode cX8_program 161 = .ok (.aload_n 0, 1) := by decide +kernel
theorem dX8_program_162 : decode cX8_program 162 = .ok (.getfield 101, 3) := by decide +kernel
theorem dX8_program_165 : decode cX8_program 165 = .ok (.iconst 5, 1) := by decide +kernel
theorem dX8_program_166 : decode cX8_program 166 = .ok (.aload_n 0, 1) := by decide +kernel
theorem dX8_program_167 : decode cX8_program 167 = .ok (.getfield 187, 3) := by decide +kernel
theorem dX8_program_170 : decode cX8_program 170 = .ok (.imul, 1) := by decide +kernel
theorem dX8_program_171 : decode cX8_program 171 = .ok (.iload_n 1, 1) := by decide +kernel
theorem dX8_program_172 : decode cX8_program 172 = .ok (.iadd, 1) := by decide +kernel
theorem dX8_program_173 : decode cX8_program 173 = .ok (.baload, 1) := by decide +kernel
theorem dX8_program_174 : decode cX8_program 174 = .ok (.ifCond .ne 25, 3) := by decide +kernel
theorem dX8_program_177 : decode cX8_program 177 = .ok (.aload_n 0, 1) := by decide +kernel
theorem dX8_program_178 : decode cX8_program 178 = .ok (.getfield 105, 3) := by decide +kernel
theorem dX8_program_181 : decode cX8_program 181 = .ok (.iconst 5, 1) := by decide +kernel
theorem dX8_program_182 : decode cX8_program 182 = .ok (.aload_n 0, 1) := by decide +kernel
theorem dX8_program_183 : decode cX8_program 183 = .ok (.getfield 187, 3) := by decide +kernel
theorem dX8_program_186 : decode cX8_program 186 = .ok (.imul, 1) := by decide +kernel
theorem dX8_program_187 : decode cX8_program 187 = .ok (.iload_n 1, 1) := by decide +kernel
theorem dX8_program_188 : decode cX8_program 188 = .ok (.iadd, 1) := by decide +kernel
theorem dX8_program_189 : decode cX8_program 189 = .ok (.baload, 1) := by decide +kernel
theorem dX8_program_190 : decode cX8_program 190 = .ok (.ifCond .ne 9, 3) := by decide +kernel
theorem dX8_program_193 : decode cX8_program 193 = .ok (.aload_n 0, 1) := by decide +kernel
theorem dX8_program_194 : decode cX8_program 194 = .ok (.bipush 6, 2) := by decide +kernel
theorem dX8_program_196 : decode cX8_program 196 = .ok (.invokevirtual 180, 3) := by decide +kernel
theorem dX8_program_199 : decode cX8_program 199 = .ok (.iinc 1 1, 3) := by decide +kernel
theorem dX8_program_202 : decode cX8_program 202 = .ok (.goto (-61), 3) := by decide +kernel
theorem dX8_program_205 : decode cX8_program 205 = .ok (.aload_n 0, 1) := by decide +kernel
theorem dX8_program_206 : decode cX8_program 206 = .ok (.invokevirtual 172, 3) := by decide +kernel
theorem dX8_program_209 : decode cX8_program 209 = .ok (.ifCond .ne 6, 3) := by decide +kernel
theorem dX8_program_212 : decode cX8_program 212 = .ok (.bipush (-2), 2) := by decide +kernel
theorem dX8_program_214 : decode cX8_program 214 = .ok (.ireturn, 1) := by decide +kernel
theorem dX8_program_215 : decode cX8_program 215 = .ok (.aload_n 0, 1) := by decide +kernel
theorem dX8_program_216 : decode cX8_program 216 = .ok (.aload_n 0, 1) := by decide +kernel
theorem dX8_program_217 : decode cX8_program 217 = .ok (.getfield 187, 3) := by decide +kernel
theorem dX8_program_220 : decode cX8_program 220 = .ok (.putfield 228, 3) := by decide +kernel
theorem dX8_program_223 : decode cX8_program 223 = .ok (.aload_n 0, 1) := by decide +kernel
theorem dX8_program_224 : decode cX8_program 224 = .ok (.iconst 1, 1) := by decide +kernel
theorem dX8_program_225 : decode cX8_program 225 = .ok (.putfield 243, 3) := by decide +kernel
theorem dX8_program_228 : decode cX8_program 228 = .ok (.aload_n 0, 1) := by decide +kernel
theorem dX8_program_229 : decode cX8_program 229 = .ok (.iconst 0, 1) := by decide +kernel
theorem dX8_program_230 : decode cX8_program 230 = .ok (.putfield 247, 3) := by decide +kernel
theorem dX8_program_233 : decode cX8_program 233 = .ok (.aload_n 0, 1) := by decide +kernel
theorem dX8_program_234 : decode cX8_program 234 = .ok (.invokevirtual 250, 3) := by decide +kernel
theorem dX8_program_237 : decode cX8_program 237 = .ok (.aload_n 0, 1) := by decide +kernel
theorem dX8_program_238 : decode cX8_program 238 = .ok (.getfield 23, 3) := by decide +kernel
theorem dX8_program_241 : decode cX8_program 241 = .ok (.aload_n 0, 1) := by decide +kernel
theorem dX8_program_242 : decode cX8_program 242 = .ok (.getfield 228, 3) := by decide +kernel
theorem dX8_program_245 : decode cX8_program 245 = .ok (.iaload, 1) := by decide +kernel
theorem dX8_program_246 : decode cX8_program 246 = .ok (.ireturn, 1) := by decide +kernel
