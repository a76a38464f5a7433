/-! one half of the tree -/
def HE (F G : FN) (s : Int) : Prop := ∀ (c j : Nat), 73 ≤ c → c ≤ 102 → wd c * s ≤ (j : Int) → (j : Int) < wd c * s + wd c → G c j = F c j
theorem HE.oh {F G : FN} {s t : Int} (h : OH F G t) (h0 : 0 ≤ s) (h1 : 0 ≤ t) (e : s + t = 1) : HE F G s := fun c j a b p q => by
  have w : 0 < wd c := by unfold wd; (repeat' split) <;> omega
  refine h.1 c j a b (fun z => ?_)
  have hs : (s = 0 ∧ t = 1) ∨ (s = 1 ∧ t = 0) := by omega
  rcases hs with ⟨rfl, rfl⟩ | ⟨rfl, rfl⟩
  · rw [Int.mul_zero] at p q; rw [Int.mul_one] at z; omega
  · rw [Int.mul_one] at p q; rw [Int.mul_zero] at z; omega
theorem HE.v {F G : FN} {s i : Int} {c : Nat} (w : Int) (h : HE F G s) (hw : wd c = w) (h1 : 73 ≤ c) (h2 : c ≤ 102) (h0 : 0 ≤ i) (p : w * s ≤ i) (q : i < w * s + w) : V G c i = V F c i := by
  unfold V
  rw [h c _ h1 h2 (by rw [hw]; omega) (by rw [hw]; omega)]
theorem II.he {F G : FN} {s i : Int} (h : HE F G s) (h0 : 0 ≤ s) : II G s i ↔ II F s i := by
  unfold II
  rw [h.v 1 (c := 73) rfl (by omega) (by omega) h0 (by omega) (by omega)]
theorem BB.he {F G : FN} {s i : Int} (h : HE F G s) (h0 : 0 ≤ s) : BB G s i ↔ BB F s i := by
  unfold BB
  rw [h.v 1 (c := 74) rfl (by omega) (by omega) h0 (by omega) (by omega)]
theorem TR.he {F G : FN} {s : Int} (h : HE F G s) (h0 : 0 ≤ s) (b3 : V F 73 s ≤ 130) (b4 : V F 74 s ≤ 280) (b5 : V F 75 s ≤ 40) (t : TR F s) : TR G s := by
  obtain ⟨⟨p1, p2, p3⟩, a1, a2, a3, a4, a5, a6⟩ := t
  have e73 : V G 73 s = V F 73 s := h.v 1 rfl (by omega) (by omega) h0 (by omega) (by omega)
  have e74 : V G 74 s = V F 74 s := h.v 1 rfl (by omega) (by omega) h0 (by omega) (by omega)
  have e75 : V G 75 s = V F 75 s := h.v 1 rfl (by omega) (by omega) h0 (by omega) (by omega)
  have eI : ∀ (c : Nat) (i : Int), wd c = 130 → 73 ≤ c → c ≤ 102 → II F s i → V G c i = V F c i := fun c i w q1 q2 hi => by
    have x1 := hi.1
    have x2 := hi.2
    exact h.v 130 w q1 q2 (by omega) (by omega) (by omega)
  have eB : ∀ (c : Nat) (i : Int), wd c = 280 → 73 ≤ c → c ≤ 102 → BB F s i → V G c i = V F c i := fun c i w q1 q2 hi => by
    have x1 := hi.1
    have x2 := hi.2
    exact h.v 280 w q1 q2 (by omega) (by omega) (by omega)
  have e9 : ∀ i : Int, II F s i → V G 89 (2 * i) = V F 89 (2 * i) ∧ V G 89 (2 * i + 1) = V F 89 (2 * i + 1) := fun i hi => by
    have x1 := hi.1
    have x2 := hi.2
    exact ⟨h.v 260 rfl (by omega) (by omega) (by omega) (by omega) (by omega), h.v 260 rfl (by omega) (by omega) (by omega) (by omega) (by omega)⟩
  have e93 : ∀ k : Int, 0 ≤ k → k < V F 75 s → V G 93 (40 * s + k) = V F 93 (40 * s + k) := fun k x1 x2 => h.v 40 rfl (by omega) (by omega) (by omega) (by omega) (by omega)
  refine ⟨⟨by omega, by omega, by omega⟩, fun i hi => ?_, fun i hi => ?_, fun i hi => ?_, fun i hi => ?_, fun b hb => ?_, fun k h1 h2 => ?_⟩
  · have hF := (II.he h h0).mp hi
    have w := a1 i hF
    unfold T1 at *
    rw [eI 87 i rfl (by omega) (by omega) hF, e73, eI 88 i rfl (by omega) (by omega) hF]
    rcases w with w | ⟨w1, w2, w3⟩
    · exact Or.inl w
    · refine Or.inr ⟨w1, w2, ?_⟩
      rw [eI 88 _ rfl (by omega) (by omega) ⟨by have := hF.1; omega, w2⟩]
      exact w3
  · have hF := (II.he h h0).mp hi
    have w := a2 i hF
    unfold T2 at *
    rw [eI 88 i rfl (by omega) (by omega) hF, BB.he h h0, eB 92 _ rfl (by omega) (by omega) w.1, eI 80 i rfl (by omega) (by omega) hF]
    refine ⟨w.1, ?_⟩
    rcases w.2 with q | ⟨q1, q2, q3, q4⟩
    · exact Or.inl q
    · have x2 := hF.2
      refine Or.inr ⟨q1, q2, ?_, fun k w1 w2 => ?_⟩
      · rw [eI 80 _ rfl (by omega) (by omega) ⟨q1, by omega⟩]; exact q3
      · rw [eI 80 k rfl (by omega) (by omega) ⟨by omega, by omega⟩]; exact q4 k w1 w2
  · have hF := (II.he h h0).mp hi
    have w := a3 i hF
    have n9 := e9 i hF
    unfold T3 at *
    rw [eI 77 i rfl (by omega) (by omega) hF, eI 78 i rfl (by omega) (by omega) hF, eI 82 i rfl (by omega) (by omega) hF, n9.1, n9.2, e75]
    refine ⟨fun q => ?_, w.2⟩
    obtain ⟨w1, w2, w3⟩ := w.1 q
    exact ⟨w1, w2, by rw [e93 _ w1 w2]; exact w3⟩
  · have hF := (II.he h h0).mp hi
    have w := a4 i hF
    unfold T4 at *
    rw [eI 85 i rfl (by omega) (by omega) hF, eI 86 i rfl (by omega) (by omega) hF, BB.he h h0, BB.he h h0]
    refine ⟨?_, ?_⟩
    · rcases w.1 with q | ⟨q1, q2⟩
      · exact Or.inl q
      · exact Or.inr ⟨q1, by rw [eB 92 _ rfl (by omega) (by omega) q1]; exact q2⟩
    · rcases w.2 with q | ⟨q1, q2⟩
      · exact Or.inl q
      · exact Or.inr ⟨q1, by rw [eB 92 _ rfl (by omega) (by omega) q1]; exact q2⟩
  · have hF := (BB.he h h0).mp hb
    have w := a5 b hF
    unfold T5 at *
    rw [eB 90 b rfl (by omega) (by omega) hF, eB 91 b rfl (by omega) (by omega) hF, eB 92 b rfl (by omega) (by omega) hF, II.he h h0, II.he h h0, II.he h h0]
    refine ⟨?_, ?_, w.2.2⟩
    · rcases w.1 with q | ⟨q1, q2⟩
      · exact Or.inl q
      · exact Or.inr ⟨q1, by rw [eI 88 _ rfl (by omega) (by omega) q1]; exact q2⟩
    · rcases w.2.1 with q | ⟨q1, q2⟩
      · exact Or.inl q
      · exact Or.inr ⟨q1, by rw [eI 88 _ rfl (by omega) (by omega) q1]; exact q2⟩
  · rw [e75] at h2
    rw [II.he h h0, e93 k h1 h2]
    exact a6 k h1 h2
theorem RD.he {F G : FN} {s : Int} (h : HE F G s) (h0 : 0 ≤ s) (b3 : V F 73 s ≤ 130) (b4 : V F 74 s ≤ 280) (b5 : V F 75 s ≤ 40) (b6 : V F 76 s ≤ 5) (r : RD F s) : RD G s := by
  obtain ⟨t, cn, wh⟩ := r
  have e73 : V G 73 s = V F 73 s := h.v 1 rfl (by omega) (by omega) h0 (by omega) (by omega)
  have e76 : V G 76 s = V F 76 s := h.v 1 rfl (by omega) (by omega) h0 (by omega) (by omega)
  refine ⟨t.he h h0 b3 b4 b5, fun j h1 h2 => ?_, fun p h1 h2 => ?_⟩
  · rw [e73] at h2
    have w := cn j h1 h2
    have e : ∀ c : Nat, wd c = 130 → 73 ≤ c → c ≤ 102 → V G c j = V F c j := fun c q q1 q2 => h.v 130 q q1 q2 (by omega) (by omega) (by omega)
    unfold CC at *
    rw [e 80 rfl (by omega) (by omega), e 77 rfl (by omega) (by omega), e 82 rfl (by omega) (by omega), e 85 rfl (by omega) (by omega), e 86 rfl (by omega) (by omega)]
    exact w
  · rw [e76] at h2
    have w := wh p h1 h2
    have e94 : V G 94 (5 * s + p) = V F 94 (5 * s + p) := h.v 5 rfl (by omega) (by omega) (by omega) (by omega) (by omega)
    have x1 := w.1.1
    have x2 := w.1.2
    rw [e94, BB.he h h0, h.v 280 (c := 92) rfl (by omega) (by omega) (by omega) (by omega) (by omega)]
    exact w
theorem TD.he {F G : FN} {s : Int} (h : HE F G s) (h0 : 0 ≤ s) (b3 : V F 73 s ≤ 130) (b5 : V F 75 s ≤ 40) (t : TR F s) (d : TD F s) : TD G s := fun k h1 h2 => by
  have e75 : V G 75 s = V F 75 s := h.v 1 rfl (by omega) (by omega) h0 (by omega) (by omega)
  rw [e75] at h2
  have i := t.2.2.2.2.2.2 k h1 h2
  have x1 := i.1
  have x2 := i.2
  rw [h.v 40 (c := 93) rfl (by omega) (by omega) (by omega) (by omega) (by omega), h.v 130 (c := 84) rfl (by omega) (by omega) (by omega) (by omega) (by omega), h.v 1 (c := 76) rfl (by omega) (by omega) h0 (by omega) (by omega)]
  exact d k h1 h2
/-- what lives stays as the other half is read anew -/
theorem LV.oh {P : PP} {h : HP} {G : FN} {t : Int} (hv : Iv P h) (o : OH h.2.1 G t) (h1 : 0 ≤ t) (e : (h.2.1 70 29).toInt + t = 1) (l : LV h.2.1) : LV G := fun q => by
  have e29 : G 70 29 = h.2.1 70 29 := o.2.2.1
  have e30 : G 70 30 = h.2.1 70 30 := o.2.2.2
  rw [e30] at q
  obtain ⟨w1, w2, w3⟩ := l q
  have h0 : 0 ≤ (h.2.1 70 29).toInt := (hv.2.1 70 29).1
  have he := HE.oh (s := (h.2.1 70 29).toInt) o h0 h1 e
  have b3 : V h.2.1 73 (h.2.1 70 29).toInt ≤ 130 := (hv.2.1 73 _).2
  have b4 : V h.2.1 74 (h.2.1 70 29).toInt ≤ 280 := (hv.2.1 74 _).2
  have b5 : V h.2.1 75 (h.2.1 70 29).toInt ≤ 40 := (hv.2.1 75 _).2
  have b6 : V h.2.1 76 (h.2.1 70 29).toInt ≤ 5 := (hv.2.1 76 _).2
  rw [e29]
  refine ⟨w1.he he h0 b3 b4 b5 b6, TD.he he h0 b3 b5 w1.1 w2, ?_⟩
  rw [he.v 1 (c := 76) rfl (by omega) (by omega) h0 (by omega) (by omega)]
  exact w3
theorem go_post {l : Launch} {own : String} {cc : ByteArray} {nL : Nat} {R : Room} {nm : String} {rt : Option FieldType} {n0 mc ms : Nat} {Xf : Nat → State → Prop} {Qf Qg : Option Value → HP → Prop} {sl pc : Nat} {lv : List (Nat × Value)} {st : List Value} {h : HP} (hq : ∀ r h', Qf r h' → Qg r h') (g : Go l own cc nL R nm rt n0 mc ms Xf Qf sl pc lv st h) : Go l own cc nL R nm rt n0 mc ms Xf Qg sl pc lv st h :=
  fun p e s m args below meth c D cy zb Q H locs ls C E => g p e s m args below meth c D cy zb Q H locs ls C (fun r h' H locs pc ls hr => E r h' H locs pc ls (hq r h' hr))
theorem Iv.putG {P : PP} {h : HP} {j : Nat} {x : Int32} {a : Int} (hi : Iv P h) (ex : TI x a) (h1 : 0 ≤ a) (h2 : a ≤ 1) (hj : j = 6 ∨ j = 29 ∨ j = 30) : Iv (mz P (hI h 70 j x)) (hI h 70 j x) := by
  obtain ⟨q1, q2, q3, q4, q5, q6, q7, q8, q9, q10, q12⟩ := hi
  refine ⟨q1, fun c' j' => ?_, q3, q4, q5, fun c' hc' j' => ?_, q7, ?_, fun c' hc' j' => ?_, q10, fun c' j' hc' => _root_.rfl⟩
  · show (rg c' j').1 ≤ (if c' = 70 ∧ j' = j then x else h.2.1 c' j').toInt ∧ (if c' = 70 ∧ j' = j then x else h.2.1 c' j').toInt ≤ (rg c' j').2
    by_cases e : c' = 70 ∧ j' = j
    · rw [if_pos e, e.1, e.2, show x.toInt = a from ex]
      rcases hj with rfl | rfl | rfl <;> exact ⟨h1, h2⟩
    · rw [if_neg e]; exact q2 c' j'
  · show (if c' + 2 = 70 ∧ j' = j then x else h.2.1 (c' + 2) j').toInt = 1 → 0 ≤ (if c' + 7 = 70 ∧ j' = j then x else h.2.1 (c' + 7) j').toInt
    rw [if_neg (by omega), if_neg (by omega)]
    exact q6 c' hc' j'
  · show (if 70 = 70 ∧ 2 = j then x else h.2.1 70 2) = _
    rw [if_neg (by omega)]; exact q8
  · show (if c' = 70 ∧ j' = j then x else h.2.1 c' j') = _
    rw [if_neg (by omega)]; exact q9 c' hc' j'
theorem gi_putG {l : Launch} {own : String} {cc : ByteArray} {nL : Nat} {R : Room} {nm : String} {rt : Option FieldType} {n0 mc ms : Nat} {Xf : Nat → State → Prop} {Qf : Option Value → HP → Prop} {sl pc : Nat} {lv : List (Nat × Value)} {st : List Value} {h : HP} {P : PP} {idx j : Nat} {x : Int32} {a : Int} (hv : Iv P h) (ex : TI x a) (hf : FP own nm idx 8 j) (hi2 : j < 60) (hty : g_kind (g_ty 8 j) = 0) (hna : narrow (g_ty 8 j) (.int x) = .int x) (hfi : fits (g_ty 8 j) (.int x) = true) (h1 : 0 ≤ a) (h2 : a ≤ 1) (hj : j = 6 ∨ j = 29 ∨ j = 30) (hd : decode cc pc = .ok (.putfield idx, 3)) (k : ∀ h' : HP, Iv (mz P h') h' → h' = hI h 70 j x → Go l own cc nL R nm rt n0 mc ms Xf Qf sl (pc + 3) lv st h') : Go l own cc nL R nm rt n0 mc ms Xf Qf sl pc lv (.int x :: .ref 70 :: st) h :=
  go_putI hf (hv.sh rfl) hi2 hty (fun _ => hna) (fun _ => hfi) hd (k _ (hv.putG ex h1 h2 hj) rfl)
/-- what is told of a program that is read well -/
def PB (F : FN) (s : Int) : Prop := RD F s ∧ TD F s ∧ 1 ≤ V F 76 s ∧ WI F s
theorem PB.kx {m : Nat} {F G : FN} (h : KX m F G) (hm : 100 ≤ m) {s : Int} (p : PB F s) : PB G s := by
  refine ⟨p.1.kx h (by omega), p.2.1.kx h (by omega), ?_, fun k a b q => ?_⟩
  · rw [h.v (by omega) (by omega)]; exact p.2.2.1
  · rw [h.v (c := 75) (by omega) (by omega)] at b
    rw [h.v (c := 77) (by omega) (by omega), h.v (c := 93) (by omega) (by omega)] at q
    rw [h.v (c := 96) (by omega) (by omega)]
    exact p.2.2.2 k a b q
theorem PB.ways {F G : FN} {s : Int} (h : KX 94 F G) (r : RD F s) (t : TD F s) (o : 1 ≤ V F 76 s) (w : WJ F G s (V F 75 s)) : PB G s := by
  refine ⟨r.kx h (by omega), t.kx h (by omega), ?_, fun k a b q => ?_⟩
  · rw [h.v (by omega) (by omega)]; exact o
  · rw [h.v (c := 75) (by omega) (by omega)] at b
    rw [h.v (c := 77) (by omega) (by omega), h.v (c := 93) (by omega) (by omega)] at q
    exact w k a b q
abbrev MC (P Q : PP) : Prop := MW P Q
/-- what the reference's program keeps of P -/
def PG (P Q : PP) : Prop := Q.1 = P.1 ∧ Q.2.1.toInt = 0 ∧ Q.2.2.1 = P.2.2.1 ∧ Q.2.2.2.1 = P.2.2.2.1
theorem dX8_program_0 : decode cX8_program 0 = .ok (.aload_n 0, 1) := by decide +kernel
theorem dX8_program_1 : decode cX8_program 1 = .ok (.aload_n 0, 1) := by decide +kernel
theorem dX8_program_2 : decode cX8_program 2 = .ok (.getfield 151, 3) := by decide +kernel
theorem dX8_program_5 : decode cX8_program 5 = .ok (.putfield 166, 3) := by decide +kernel
theorem dX8_program_8 : decode cX8_program 8 = .ok (.iconst 0, 1) := by decide +kernel
theorem dX8_program_9 : decode cX8_program 9 = .ok (.istore_n 1, 1) := by decide +kernel
theorem dX8_program_10 : decode cX8_program 10 = .ok (.iload_n 1, 1) := by decide +kernel
theorem dX8_program_11 : decode cX8_program 11 = .ok (.aload_n 0, 1) := by decide +kernel
theorem dX8_program_12 : decode cX8_program 12 = .ok (.getfield 166, 3) := by decide +kernel
theorem dX8_program_15 : decode cX8_program 15 = .ok (.if_icmp .ge 21, 3) := by decide +kernel
theorem dX8_program_18 : decode cX8_program 18 = .ok (.aload_n 0, 1) := by decide +kernel
theorem dX8_program_19 : decode cX8_program 19 = .ok (.getfield 13, 3) := by decide +kernel
theorem dX8_program_22 : decode cX8_program 22 = .ok (.iload_n 1, 1) := by decide +kernel
theorem dX8_program_23 : decode cX8_program 23 = .ok (.aload_n 0, 1) := by decide +kernel
theorem dX8_program_24 : decode cX8_program 24 = .ok (.getfield 7, 3) := by decide +kernel
theorem dX8_program_27 : decode cX8_program 27 = .ok (.iload_n 1, 1) := by decide +kernel
theorem dX8_program_28 : decode cX8_program 28 = .ok (.baload, 1) := by decide +kernel
theorem dX8_program_29 : decode cX8_program 29 = .ok (.bastore, 1) := by decide +kernel
theorem dX8_program_30 : decode cX8_program 30 = .ok (.iinc 1 1, 3) := by decide +kernel
theorem dX8_program_33 : decode cX8_program 33 = .ok (.goto (-23), 3) := by decide +kernel
theorem dX8_program_36 : decode cX8_program 36 = .ok (.aload_n 0, 1) := by decide +kernel
theorem dX8_program_37 : decode cX8_program 37 = .ok (.iconst 0, 1) := by decide +kernel
theorem dX8_program_38 : decode cX8_program 38 = .ok (.putfield 151, 3) := by decide +kernel
theorem dX8_program_41 : decode cX8_program 41 = .ok (.aload_n 0, 1) := by decide +kernel
theorem dX8_program_42 : decode cX8_program 42 = .ok (.iconst 0, 1) := by decide +kernel
theorem dX8_program_43 : decode cX8_program 43 = .ok (.putfield 163, 3) := by decide +kernel
theorem dX8_program_46 : decode cX8_program 46 = .ok (.aload_n 0, 1) := by decide +kernel
theorem dX8_program_47 : decode cX8_program 47 = .ok (.iconst 0, 1) := by decide +kernel
theorem dX8_program_48 : decode cX8_program 48 = .ok (.putfield 169, 3) := by decide +kernel
theorem dX8_program_51 : decode cX8_program 51 = .ok (.aload_n 0, 1) := by decide +kernel
theorem dX8_program_52 : decode cX8_program 52 = .ok (.iconst 1, 1) := by decide +kernel
theorem dX8_program_53 : decode cX8_program 53 = .ok (.aload_n 0, 1) := by decide +kernel
theorem dX8_program_54 : decode cX8_program 54 = .ok (.getfield 228, 3) := by decide +kernel
theorem dX8_program_57 : decode cX8_program 57 = .ok (.isub, 1) := by decide +kernel
theorem dX8_program_58 : decode cX8_program 58 = .ok (.putfield 187, 3) := by decide +kernel
theorem dX8_program_61 : decode cX8_program 61 = .ok (.aload_n 0, 1) := by decide +kernel
theorem dX8_program_62 : decode cX8_program 62 = .ok (.getfield 16, 3) := by decide +kernel
theorem dX8_program_65 : decode cX8_program 65 = .ok (.aload_n 0, 1) := by decide +kernel
theorem dX8_program_66 : decode cX8_program 66 = .ok (.getfield 187, 3) := by decide +kernel
theorem dX8_program_69 : decode cX8_program 69 = .ok (.iconst 0, 1) := by decide +kernel
theorem dX8_program_70 : decode cX8_program 70 = .ok (.iastore, 1) := by decide +kernel
theorem dX8_program_71 : decode cX8_program 71 = .ok (.aload_n 0, 1) := by decide +kernel
theorem dX8_program_72 : decode cX8_program 72 = .ok (.getfield 20, 3) := by decide +kernel
theorem dX8_program_75 : decode cX8_program 75 = .ok (.aload_n 0, 1) := by decide +kernel
theorem dX8_program_76 : decode cX8_program 76 = .ok (.getfield 187, 3) := by decide +kernel
theorem dX8_program_79 : decode cX8_program 79 = .ok (.iconst 0, 1) := by decide +kernel
theorem dX8_program_80 : decode cX8_program 80 = .ok (.iastore, 1) := by decide +kernel
theorem dX8_program_81 : decode cX8_program 81 = .ok (.aload_n 0, 1) := by decide +kernel
theorem dX8_program_82 : decode cX8_program 82 = .ok (.getfield 23, 3) := by decide +kernel
theorem dX8_program_85 : decode cX8_program 85 = .ok (.aload_n 0, 1) := by decide +kernel
theorem dX8_program_86 : decode cX8_program 86 = .ok (.getfield 187, 3) := by decide +kernel
theorem dX8_program_89 : decode cX8_program 89 = .ok (.iconst 0, 1) := by decide +kernel
theorem dX8_program_90 : decode cX8_program 90 = .ok (.iastore, 1) := by decide +kernel
theorem dX8_program_91 : decode cX8_program 91 = .ok (.aload_n 0, 1) := by decide +kernel
theorem dX8_program_92 : decode cX8_program 92 = .ok (.getfield 26, 3) := by decide +kernel
theorem dX8_program_95 : decode cX8_program 95 = .ok (.aload_n 0, 1) := by decide +kernel
theorem dX8_program_96 : decode cX8_program 96 = .ok (.getfield 187, 3) := by decide +kernel
theorem dX8_program_99 : decode cX8_program 99 = .ok (.iconst 0, 1) := by decide +kernel
theorem dX8_program_100 : decode cX8_program 100 = .ok (.iastore, 1) := by decide +kernel
theorem dX8_program_101 : decode cX8_program 101 = .ok (.aload_n 0, 1) := by decide +kernel
theorem dX8_program_102 : decode cX8_program 102 = .ok (.invokevirtual 231, 3) := by decide +kernel
theorem dX8_program_105 : decode cX8_program 105 = .ok (.aload_n 0, 1) := by decide +kernel
theorem dX8_program_106 : decode cX8_program 106 = .ok (.invokevirtual 172, 3) := by decide +kernel
theorem dX8_program_109 : decode cX8_program 109 = .ok (.ifCond .eq 15, 3) := by decide +kernel
theorem dX8_program_112 : decode cX8_program 112 = .ok (.aload_n 0, 1) := by decide +kernel
theorem dX8_program_113 : decode cX8_program 113 = .ok (.invokevirtual 234, 3) := by decide +kernel
theorem dX8_program_116 : decode cX8_program 116 = .ok (.ifCond .ne 8, 3) := by decide +kernel
theorem dX8_program_119 : decode cX8_program 119 = .ok (.aload_n 0, 1) := by decide +kernel
theorem dX8_program_120 : decode cX8_program 120 = .ok (.iconst 5, 1) := by decide +kernel
theorem dX8_program_121 : decode cX8_program 121 = .ok (.invokevirtual 180, 3) := by decide +kernel
theorem dX8_program_124 : decode cX8_program 124 = .ok (.aload_n 0, 1) := by decide +kernel
theorem dX8_program_125 : decode cX8_program 125 = .ok (.invokevirtual 172, 3) := by decide +kernel
theorem dX8_program_128 : decode cX8_program 128 = .ok (.ifCond .eq 77, 3) := by decide +kernel
theorem dX8_program_131 : decode cX8_program 131 = .ok (.aload_n 0, 1) := by decide +kernel
theorem dX8_program_132 : decode cX8_program 132 = .ok (.invokevirtual 237, 3) := by decide +kernel
theorem dX8_program_135 : decode cX8_program 135 = .ok (.aload_n 0, 1) := by decide +kernel
theorem dX8_program_136 : decode cX8_program 136 = .ok (.invokevirtual 240, 3) := by decide +kernel
theorem dX8_program_139 : decode cX8_program 139 = .ok (.iconst 0, 1) := by decide +kernel
theorem dX8_program_140 : decode cX8_program 140 = .ok (.istore_n 1, 1) := by decide +kernel
theorem dX8_program_141 : decode cX8_program 141 = .ok (.iload_n 1, 1) := by decide +kernel
theorem dX8_program_142 : decode cX8_program 142 = .ok (.aload_n 0, 1) := by decide +kernel
theorem dX8_program_143 : decode cX8_program 143 = .ok (.getfield 26, 3) := by decide +kernel
theorem dX8_program_146 : decode cX8_program 146 = .ok (.aload_n 0, 1) := by decide +kernel
theorem dX8_program_147 : decode cX8_program 147 = .ok (.getfield 187, 3) := by decide +kernel
theorem dX8_program_150 : decode cX8_program 150 = .ok (.iaload, 1) := by decide +kernel
theorem dX8_program_151 : decode cX8_program 151 = .ok (.if_icmp .ge 54, 3) := by decide +kernel
theorem dX8_program_154 : decode cX8_program 154 = .ok (.aload_n 0, 1) := by decide +kernel
theorem dX8_program_155 : decode cX8_program 155 = .ok (.invokevirtual 172, 3) := by decide +kernel
theorem dX8_program_158 : decode cX8_program 158 = .ok (.ifCond .eq 35, 3) := by decide +kernel
theorem dX8_program_161 : decode cX8_program 161 = .ok (.aload_n 0, 1) := by decide +kernel
theorem dX8_program_162 : decode cX8_program 162 = .ok (.getfield 101, 3) := by decide +kernel
theorem dX8_program_165 : decode cX8_program 165 = .ok (.iconst 5, 1) := by decide +kernel
theorem dX8_program_166 : decode cX8_program 166 = .ok (.aload_n 0, 1) := by decide +kernel
theorem dX8_program_167 : decode cX8_program 167 = .ok (.getfield 187, 3) := by decide +kernel
theorem dX8_program_170 : decode cX8_program 170 = .ok (.imul, 1) := by decide +kernel
theorem dX8_program_171 : decode cX8_program 171 = .ok (.iload_n 1, 1) := by decide +kernel
theorem dX8_program_172 : decode cX8_program 172 = .ok (.iadd, 1) := by decide +kernel
theorem dX8_program_173 : decode cX8_program 173 = .ok (.baload, 1) := by decide +kernel
theorem dX8_program_174 : decode cX8_program 174 = .ok (.ifCond .ne 25, 3) := by decide +kernel
theorem dX8_program_177 : decode cX8_program 177 = .ok (.aload_n 0, 1) := by decide +kernel
theorem dX8_program_178 : decode cX8_program 178 = .ok (.getfield 105, 3) := by decide +kernel
theorem dX8_program_181 : decode cX8_program 181 = .ok (.iconst 5, 1) := by decide +kernel
theorem dX8_program_182 : decode cX8_program 182 = .ok (.aload_n 0, 1) := by decide +kernel
theorem dX8_program_183 : decode cX8_program 183 = .ok (.getfield 187, 3) := by decide +kernel
theorem dX8_program_186 : decode cX8_program 186 = .ok (.imul, 1) := by decide +kernel
theorem dX8_program_187 : decode cX8_program 187 = .ok (.iload_n 1, 1) := by decide +kernel
theorem dX8_program_188 : decode cX8_program 188 = .ok (.iadd, 1) := by decide +kernel
theorem dX8_program_189 : decode cX8_program 189 = .ok (.baload, 1) := by decide +kernel
theorem dX8_program_190 : decode cX8_program 190 = .ok (.ifCond .ne 9, 3) := by decide +kernel
theorem dX8_program_193 : decode cX8_program 193 = .ok (.aload_n 0, 1) := by decide +kernel
theorem dX8_program_194 : decode cX8_program 194 = .ok (.bipush 6, 2) := by decide +kernel
theorem dX8_program_196 : decode cX8_program 196 = .ok (.invokevirtual 180, 3) := by decide +kernel
theorem dX8_program_199 : decode cX8_program 199 = .ok (.iinc 1 1, 3) := by decide +kernel
theorem dX8_program_202 : decode cX8_program 202 = .ok (.goto (-61), 3) := by decide +kernel
theorem dX8_program_205 : decode cX8_program 205 = .ok (.aload_n 0, 1) := by decide +kernel
theorem dX8_program_206 : decode cX8_program 206 = .ok (.invokevirtual 172, 3) := by decide +kernel
theorem dX8_program_209 : decode cX8_program 209 = .ok (.ifCond .ne 6, 3) := by decide +kernel
theorem dX8_program_212 : decode cX8_program 212 = .ok (.bipush (-2), 2) := by decide +kernel
theorem dX8_program_214 : decode cX8_program 214 = .ok (.ireturn, 1) := by decide +kernel
theorem dX8_program_215 : decode cX8_program 215 = .ok (.aload_n 0, 1) := by decide +kernel
theorem dX8_program_216 : decode cX8_program 216 = .ok (.aload_n 0, 1) := by decide +kernel
theorem dX8_program_217 : decode cX8_program 217 = .ok (.getfield 187, 3) := by decide +kernel
theorem dX8_program_220 : decode cX8_program 220 = .ok (.putfield 228, 3) := by decide +kernel
theorem dX8_program_223 : decode cX8_program 223 = .ok (.aload_n 0, 1) := by decide +kernel
theorem dX8_program_224 : decode cX8_program 224 = .ok (.iconst 1, 1) := by decide +kernel
theorem dX8_program_225 : decode cX8_program 225 = .ok (.putfield 243, 3) := by decide +kernel
theorem dX8_program_228 : decode cX8_program 228 = .ok (.aload_n 0, 1) := by decide +kernel
theorem dX8_program_229 : decode cX8_program 229 = .ok (.iconst 0, 1) := by decide +kernel
theorem dX8_program_230 : decode cX8_program 230 = .ok (.putfield 247, 3) := by decide +kernel
theorem dX8_program_233 : decode cX8_program 233 = .ok (.aload_n 0, 1) := by decide +kernel
theorem dX8_program_234 : decode cX8_program 234 = .ok (.invokevirtual 250, 3) := by decide +kernel
theorem dX8_program_237 : decode cX8_program 237 = .ok (.aload_n 0, 1) := by decide +kernel
theorem dX8_program_238 : decode cX8_program 238 = .ok (.getfield 23, 3) := by decide +kernel
theorem dX8_program_241 : decode cX8_program 241 = .ok (.aload_n 0, 1) := by decide +kernel
theorem dX8_program_242 : decode cX8_program 242 = .ok (.getfield 228, 3) := by decide +kernel
theorem dX8_program_245 : decode cX8_program 245 = .ok (.iaload, 1) := by decide +kernel
theorem dX8_program_246 : decode cX8_program 246 = .ok (.ireturn, 1) := by decide +kernel
set_option maxHeartbeats 4000000 in
set_option maxRecDepth 100000 in
theorem s_X8_program_c (l : Launch) (d : Nat) {P : PP} {h : HP} (hv : Iv P h) (ckf : CKF h.2.1) (hpb : PB h.2.1 (h.2.1 70 6).toInt) : Go l RX8 cX8_program 2 (g_rm (d + 600) 0 0) "program" (some .int) 117 0 0 (fun _ _ => True) (fun r h' => ∃ v : Int32, r = some (.int v) ∧ -2147483648 ≤ v.toInt ∧ v.toInt ≤ 2147483647 ∧ (∃ Q : PP, Iv Q h' ∧ MC P Q) ∧ ((CKF h'.2.1)) ∧ (LV h'.2.1)) 0 215 [(0, .ref 70)] [] h := by
  obtain ⟨u70_5, u70_5w⟩ : ∃ v : Int32, v = h.2.1 70 5 := ⟨_, rfl⟩
  have u70_5e : (h.2.1 70 5).toInt = u70_5.toInt := by rw [u70_5w]
  have u70_5l : -2147483648 ≤ u70_5.toInt := by rw [u70_5w]; exact (hv.2.1 70 5).1
  have u70_5u : u70_5.toInt ≤ 2147483647 := by rw [u70_5w]; exact (hv.2.1 70 5).2
  refine go_aload_n (pc := 215) rfl dX8_program_215 ?_
  refine go_aload_n (pc := 216) rfl dX8_program_216 ?_
  refine gi_get (pc := 217) (lo := 0) (hi := 1) hv fL_X8_187 rfl (Nat.le_of_ble_eq_true rfl) rfl rfl dX8_program_217 (fun v1 v1l v1u v1w => ?_)
  refine gi_putG (pc := 220) (j := 29) hv (ti_rfl v1) (fP_X8_228 _) (Nat.le_of_ble_eq_true rfl) rfl rfl rfl (by omega) (by omega) (by decide) dX8_program_220 (fun h2 hv2 hv2e => ?_)
  refine go_aload_n (pc := 223) rfl dX8_program_223 ?_
  refine go_iconst (pc := 224) (v := 1) (by decide) dX8_program_224 ?_
  refine gi_putG (pc := 225) (j := 30) hv2 (ti_c (v := 1) (a := 1) (by decide)) (fP_X8_243 _) (Nat.le_of_ble_eq_true rfl) rfl (ti_nb (by rw [show (1 : Int32).toInt = 1 from (ti_c (v := 1) (a := 1) (by decide))]; omega) (by rw [show (1 : Int32).toInt = 1 from (ti_c (v := 1) (a := 1) (by decide))]; omega)) (ti_fb (by rw [show (1 : Int32).toInt = 1 from (ti_c (v := 1) (a := 1) (by decide))]; omega) (by rw [show (1 : Int32).toInt = 1 from (ti_c (v := 1) (a := 1) (by decide))]; omega)) (by omega) (by omega) (by decide) dX8_program_225 (fun h3 hv3 hv3e => ?_)
  refine go_aload_n (pc := 228) rfl dX8_program_228 ?_
  refine go_iconst (pc := 229) (v := 0) (by decide) dX8_program_229 ?_
  refine gi_put (pc := 230) (lo := 0) (hi := 1) hv3 (ti_c (v := 0) (a := 0) (by decide)) (fP_X8_247 _) rfl (Nat.le_of_ble_eq_true rfl) rfl rfl (by omega) (by omega) (ti_nb (by rw [show (0 : Int32).toInt = 0 from (ti_c (v := 0) (a := 0) (by decide))]; omega) (by rw [show (0 : Int32).toInt = 0 from (ti_c (v := 0) (a := 0) (by decide))]; omega)) (ti_fb (by rw [show (0 : Int32).toInt = 0 from (ti_c (v := 0) (a := 0) (by decide))]; omega) (by rw [show (0 : Int32).toInt = 0 from (ti_c (v := 0) (a := 0) (by decide))]; omega)) (by decide) (by decide) (by decide) (by decide) dX8_program_230 (fun h4 hv4 hv4e => ?_)
  refine go_aload_n (pc := 233) rfl dX8_program_233 ?_
  have vec : VE h.2.1 h4.2.1 := fun c j a b => by rw [hv4e, hv3e, hv2e]; show (if c = 70 ∧ j = 50 then _ else if c = 70 ∧ j = 30 then _ else if c = 70 ∧ j = 29 then _ else h.2.1 c j) = _; rw [if_neg (by omega), if_neg (by omega), if_neg (by omega)]
  have s6 : h4.2.1 70 6 = h.2.1 70 6 := by rw [hv4e, hv3e, hv2e]; rfl
  have s29 : h4.2.1 70 29 = h.2.1 70 6 := by rw [hv4e, hv3e, hv2e]; exact v1w
  refine go_invV (pc := 234) (sl := 0) (s_X8_laysAll l (d + 591) hv4 (CKF.ve vec ckf) (by rw [s6]; exact TR.ve vec hpb.1.1) (by rw [s6]; exact WI.ve vec hpb.2.2.2)) mL_X8_250 iM_X8_laysAll sM_X8_laysAll (hv4.sh rfl) rfl rfl rfl (Nat.le_of_ble_eq_true rfl) (show d + 591 + 8 + 1 ≤ d + 600 by omega) (show 8 + (2 + 11) + 40 * (d + 591 + 8) ≤ 40 * (d + 600) by omega) (g_c0 hv4.ln) (Nat.le_of_ble_eq_true rfl) dX8_program_234 ?_
  intro r h5 hq _
  obtain ⟨rfl, hv5⟩ := hq
  obtain ⟨u6, u6w⟩ : ∃ v : Int32, v = h5.2.1 70 5 := ⟨_, rfl⟩
  have u6e : (h5.2.1 70 5).toInt = u6.toInt := by rw [u6w]
  have u6l : -2147483648 ≤ u6.toInt := by rw [u6w]; exact (hv5.2.1 70 5).1
  have u6u : u6.toInt ≤ 2147483647 := by rw [u6w]; exact (hv5.2.1 70 5).2
  refine go_aload_n (pc := 237) rfl dX8_program_237 ?_
  refine gi_getF (pc := 238) (q := 75) hv5 fL_X8_23 rfl (Nat.le_of_ble_eq_true rfl) rfl (hv5.rf (by decide)) dX8_program_238 ?_
  refine go_aload_n (pc := 241) rfl dX8_program_241 ?_
  refine gi_get (pc := 242) (lo := 0) (hi := 1) hv5 fL_X8_228 rfl (Nat.le_of_ble_eq_true rfl) rfl rfl dX8_program_242 (fun v7 v7l v7u v7w => ?_)
  refine gi_iald (pc := 245) (lo := 0) (hi := 40) (len := 2) hv5 (ti_rfl v7) rfl (by omega) (by omega) (fun _ => rfl) dX8_program_245 (fun v8 v8l v8u v8w => ?_)
  exact gi_iret (pc := 246) (ti_rfl v8) ⟨_, rfl, (ti_lo _), (ti_hi _), ⟨_, hv5, (MW.trans (MW.mz _ _) (MW.mz _ _))⟩, (CKF.ve (VE.trans vec (VE.of hv4 hv5)) ckf), (fun _ => by rw [show h5.2.1 70 29 = h.2.1 70 6 from by rw [hv5.fy (j := 29) (by omega), ← hv4.fy (j := 29) (by omega)]; exact s29]; exact ⟨RD.ve (VE.trans vec (VE.of hv4 hv5)) hpb.1, TD.kx (KX.ve (m := 102) (by omega) (VE.trans vec (VE.of hv4 hv5))) (by omega) hpb.2.1, by rw [VE.v (VE.trans vec (VE.of hv4 hv5)) (by omega) (by omega)]; exact hpb.2.2.1⟩)⟩ hv5 dX8_program_246
set_option maxHeartbeats 4000000 in
set_option maxRecDepth 100000 in
theorem s_X8_program_b (l : Launch) (d : Nat) {P : PP} {h : HP} (hv : Iv P h) (ckf : CKF h.2.1) (hlv : LV h.2.1) (h0 : (h.2.1 70 5).toInt = 0) (hls : (h.2.1 70 29).toInt + (h.2.1 70 6).toInt = 1) : Go l RX8 cX8_program 2 (g_rm (d + 600) 0 0) "program" (some .int) 117 0 0 (fun _ _ => True) (fun r h' => ∃ v : Int32, r = some (.int v) ∧ -2147483648 ≤ v.toInt ∧ v.toInt ≤ 2147483647 ∧ (∃ Q : PP, Iv Q h' ∧ MW P Q) ∧ ((CKF h'.2.1)) ∧ (LV h'.2.1)) 0 61 [(0, .ref 70)] [] h := by
  obtain ⟨S, hS⟩ : ∃ S : Int, S = (h.2.1 70 6).toInt := ⟨_, rfl⟩
  have S0 : 0 ≤ S := by rw [hS]; exact (hv.2.1 70 6).1
  have S1 : S ≤ 1 := by rw [hS]; exact (hv.2.1 70 6).2
  have oh : OH h.2.1 h.2.1 S := OH.rfl _ _
  have ck : CKF h.2.1 → CKF h.2.1 := id
  rw [← hS] at hls
  have key : ∀ n : Nat, (∀ (l1 : Int32) (Qx : PP) (hx : HP), Iv Qx hx → MW P Qx → 0 ≤ l1.toInt → l1.toInt ≤ 5 → (PB hx.2.1 S) → OH h.2.1 hx.2.1 S → (CKF h.2.1 → CKF hx.2.1) → (-2147483648 : Int) ≤ (hx.2.1 70 5).toInt → (hx.2.1 70 5).toInt ≤ 2147483647 → (10 - l1.toInt : Int) < n → Go l RX8 cX8_program 2 (g_rm (d + 600) 0 0) "program" (some .int) 117 0 0 (fun _ _ => True) (fun r h' => ∃ v : Int32, r = some (.int v) ∧ -2147483648 ≤ v.toInt ∧ v.toInt ≤ 2147483647 ∧ (∃ Q : PP, Iv Q h' ∧ MW P Q) ∧ ((CKF h'.2.1)) ∧ (LV h'.2.1)) 0 141 [(0, .ref 70), (1, .int l1)] [] hx) := by
    intro n
    induction n with
    | zero => exact (by intros; omega)
    | succ n ih =>
      refine ?_
      ·
        intro l1 Qx hx hvx sqx l1l l1u x0 ohx ckx y0l y0u hm
        refine go_iload_n (pc := 141) rfl dX8_program_141 ?_
        refine go_aload_n (pc := 142) rfl dX8_program_142 ?_
        refine gi_getF (pc := 143) (q := 76) hvx fL_X8_26 rfl (Nat.le_of_ble_eq_true rfl) rfl (hvx.rf (by decide)) dX8_program_143 ?_
        refine go_aload_n (pc := 146) rfl dX8_program_146 ?_
        refine gi_get (pc := 147) (lo := 0) (hi := 1) hvx fL_X8_187 rfl (Nat.le_of_ble_eq_true rfl) rfl rfl dX8_program_147 (fun v1 v1l v1u v1w => ?_)
        have v1S : v1.toInt = S := by rw [v1w]; exact (congrArg Int32.toInt ohx.side).trans hS.symm
        refine gi_iald (pc := 150) (lo := 0) (hi := 5) (len := 2) hvx (ti_rfl v1) rfl (by omega) (by omega) (fun _ => rfl) dX8_program_150 (fun v2 v2l v2u v2w => ?_)
        have v2V : v2.toInt = V hx.2.1 76 S := by rw [v2w, v1S]; rfl
        refine gf_icmp_ge (pc := 151) (tgt := 205) (ti_rfl l1) (ti_rfl v2) (by decide) dX8_program_151 (fun q3 => ?_) (fun q3 => ?_)
        ·
          refine go_aload_n (pc := 205) rfl dX8_program_205 ?_
          refine go_invV (pc := 206) (sl := 0) (s_X8_isGood l (d + 598) hvx ) mL_X8_172 iM_X8_isGood sM_X8_isGood (hvx.sh rfl) rfl rfl rfl (Nat.le_of_ble_eq_true rfl) (show d + 598 + 1 + 1 ≤ d + 600 by omega) (show 8 + (1 + 11) + 40 * (d + 598 + 1) ≤ 40 * (d + 600) by omega) (g_c0 hvx.ln) (Nat.le_of_ble_eq_true rfl) dX8_program_206 ?_
          intro r h4 hq _
          obtain ⟨v7, rfl, v7l, v7u, rfl, f5, f6⟩ := hq
          refine gf_if_ne (pc := 209) (tgt := 215) (ti_rfl v7) (by decide) dX8_program_209 (fun q8 => ?_) (fun q8 => ?_)
          ·
            have sMc : (hx.2.1 70 6).toInt = S := (congrArg Int32.toInt ohx.side).trans hS.symm
            refine go_lv (lv2 := [(0, .ref 70)]) rfl (go_post ?_ (s_X8_program_c l d hvx (ckx ckf) (by rw [sMc]; exact x0)))
            intro r h' q
            obtain ⟨v, a, b, c, ⟨Q, e1, e2⟩, f1, f2⟩ := q
            exact ⟨v, a, b, c, ⟨Q, e1, MW.trans sqx e2⟩, f1, f2⟩
          ·
            refine go_bipush (pc := 212) (v := (-2)) (by decide) dX8_program_212 ?_
            have g9 : (-2147483648 : Int) ≤ (hx.2.1 70 5).toInt := (hvx.2.1 70 5).1
            have g10 : (hx.2.1 70 5).toInt ≤ 2147483647 := (hvx.2.1 70 5).2
            have pp11 : (CKF hx.2.1) := (ckx ckf)
            have pp12 : LV hx.2.1 := (LV.oh hv ohx S0 hls hlv)
            subst hS
            exact gi_iret (pc := 214) (ti_c (v := (-2)) (a := (-2)) (by decide)) ⟨_, rfl, (ti_lo _), (ti_hi _), ⟨_, hvx, sqx⟩, pp11, pp12⟩ hvx dX8_program_214
        ·
          refine go_aload_n (pc := 154) rfl dX8_program_154 ?_
          refine go_invV (pc := 155) (sl := 0) (s_X8_isGood l (d + 598) hvx ) mL_X8_172 iM_X8_isGood sM_X8_isGood (hvx.sh rfl) rfl rfl rfl (Nat.le_of_ble_eq_true rfl) (show d + 598 + 1 + 1 ≤ d + 600 by omega) (show 8 + (1 + 11) + 40 * (d + 598 + 1) ≤ 40 * (d + 600) by omega) (g_c0 hvx.ln) (Nat.le_of_ble_eq_true rfl) dX8_program_155 ?_
          intro r h13 hq _
          obtain ⟨v16, rfl, v16l, v16u, rfl, f14, f15⟩ := hq
          refine gf_if_eq (pc := 158) (tgt := 193) (ti_rfl v16) (by decide) dX8_program_158 (fun q17 => ?_) (fun q17 => ?_)
          ·
            refine go_aload_n (pc := 193) rfl dX8_program_193 ?_
            refine go_bipush (pc := 194) (v := 6) (by decide) dX8_program_194 ?_
            have g18 : (-2147483648 : Int) ≤ (hx.2.1 70 5).toInt := (hvx.2.1 70 5).1
            have g19 : (hx.2.1 70 5).toInt ≤ 2147483647 := (hvx.2.1 70 5).2
            refine go_invV (pc := 196) (sl := 0) (s_X8_fails l (d + 598) hvx 6 (by rw [show (6 : Int32).toInt = 6 from (ti_c (v := 6) (a := 6) (by decide))]; omega) (by rw [show (6 : Int32).toInt = 6 from (ti_c (v := 6) (a := 6) (by decide))]; omega)) mL_X8_180 iM_X8_fails sM_X8_fails (hvx.sh rfl) rfl rfl rfl (Nat.le_of_ble_eq_true rfl) (show d + 598 + 1 + 1 ≤ d + 600 by omega) (show 8 + (2 + 11) + 40 * (d + 598 + 1) ≤ 40 * (d + 600) by omega) (g_c0 hvx.ln) (Nat.le_of_ble_eq_true rfl) dX8_program_196 ?_
            intro r h20 hq _
            obtain ⟨rfl, hv20, f21, f22⟩ := hq
            try rw [show (6 : Int32).toInt = 6 from (ti_c (v := 6) (a := 6) (by decide))] at f21
            try rw [show (6 : Int32).toInt = 6 from (ti_c (v := 6) (a := 6) (by decide))] at f22
            have ve20 : VE hx.2.1 h20.2.1 := VE.of hvx hv20
            have oh20 : OH h.2.1 h20.2.1 S := ohx.trans (OH.of hvx hv20 S)
            have ck20 : CKF h.2.1 → CKF h20.2.1 := fun z => CKF.ve ve20 (ckx z)
            have n73_20 : V h20.2.1 73 S = V hx.2.1 73 S := ve20.v (by omega) (by omega)
            have n74_20 : V h20.2.1 74 S = V hx.2.1 74 S := ve20.v (by omega) (by omega)
            have n75_20 : V h20.2.1 75 S = V hx.2.1 75 S := ve20.v (by omega) (by omega)
            obtain ⟨u23, u23w⟩ : ∃ v : Int32, v = h20.2.1 70 5 := ⟨_, rfl⟩
            have u23e : (h20.2.1 70 5).toInt = u23.toInt := by rw [u23w]
            have u23l : -2147483648 ≤ u23.toInt := by rw [u23w]; exact (hv20.2.1 70 5).1
            have u23u : u23.toInt ≤ 2147483647 := by rw [u23w]; exact (hv20.2.1 70 5).2
            refine gf_iinc (pc := 199) (Nat.le_of_ble_eq_true rfl) rfl (ti_rfl l1) (ti_c (by decide)) (by omega) (by omega) dX8_program_199 (fun v24 e25 => ?_)
            refine go_lv (lv2 := [(0, .ref 70), (1, .int v24)]) rfl ?_
            refine go_goto (pc := 202) (tgt := 141) (by decide) dX8_program_202 ?_
            have z26 : (v24 : Int32).toInt = (l1.toInt + 1) := e25
            have g27 : (-2147483648 : Int) ≤ (h20.2.1 70 5).toInt := (hv20.2.1 70 5).1
            have g28 : (h20.2.1 70 5).toInt ≤ 2147483647 := (hv20.2.1 70 5).2
            have g29 : (h20.2.1 70 5).toInt = u23.toInt := by rw [← (show u23 = h20.2.1 70 5 from u23w)] <;> exact (ti_rfl u23)
            exact go_lv rfl (ih v24 _ h20 hv20 sqx (by omega) (by omega) (PB.kx (KX.ve (m := 102) (by omega) ve20) (by omega) x0) oh20 ck20 (by omega) (by omega) (by omega))
          ·
            refine go_aload_n (pc := 161) rfl dX8_program_161 ?_
            refine gi_getF (pc := 162) (q := 101) hvx fL_X8_101 rfl (Nat.le_of_ble_eq_true rfl) rfl (hvx.rf (by decide)) dX8_program_162 ?_
            refine go_iconst (pc := 165) (v := 5) (by decide) dX8_program_165 ?_
            refine go_aload_n (pc := 166) rfl dX8_program_166 ?_
            refine gi_get (pc := 167) (lo := 0) (hi := 1) hvx fL_X8_187 rfl (Nat.le_of_ble_eq_true rfl) rfl rfl dX8_program_167 (fun v30 v30l v30u v30w => ?_)
            have v30r : v1 = hx.2.1 70 6 := v1w
            have v30q : TI v30 v1.toInt := by rw [v30w.trans v30r.symm]; exact (ti_rfl v1)
            refine gf_imul (pc := 170) (ti_c (v := 5) (a := 5) (by decide)) v30q (by omega) (by omega) dX8_program_170 (fun v31 e32 => ?_)
            refine go_iload_n (pc := 171) rfl dX8_program_171 ?_
            refine gf_iadd (pc := 172) e32 (ti_rfl l1) (by omega) (by omega) dX8_program_172 (fun v33 e34 => ?_)
            refine gi_zald (pc := 173) (lo := 0) (hi := 1) (len := 10) hvx e34 rfl (by omega) (by omega) (fun _ => rfl) dX8_program_173 (fun v35 v35l v35u v35w => ?_)
            have v35V : v35.toInt = V hx.2.1 101 (((5 * S) + l1.toInt)) := by rw [v35w, v1S]; rfl
            refine gf_if_ne (pc := 174) (tgt := 199) (ti_rfl v35) (by decide) dX8_program_174 (fun q36 => ?_) (fun q36 => ?_)
            ·
              refine gf_iinc (pc := 199) (Nat.le_of_ble_eq_true rfl) rfl (ti_rfl l1) (ti_c (by decide)) (by omega) (by omega) dX8_program_199 (fun v37 e38 => ?_)
              refine go_lv (lv2 := [(0, .ref 70), (1, .int v37)]) rfl ?_
              refine go_goto (pc := 202) (tgt := 141) (by decide) dX8_program_202 ?_
              have z39 : (v37 : Int32).toInt = (l1.toInt + 1) := e38
              have g40 : (-2147483648 : Int) ≤ (hx.2.1 70 5).toInt := (hvx.2.1 70 5).1
              have g41 : (hx.2.1 70 5).toInt ≤ 2147483647 := (hvx.2.1 70 5).2
              exact go_lv rfl (ih v37 _ hx hvx sqx (by omega) (by omega) x0 ohx ckx (by omega) (by omega) (by omega))
            ·
              refine go_aload_n (pc := 177) rfl dX8_program_177 ?_
              refine gi_getF (pc := 178) (q := 102) hvx fL_X8_105 rfl (Nat.le_of_ble_eq_true rfl) rfl (hvx.rf (by decide)) dX8_program_178 ?_
              refine go_iconst (pc := 181) (v := 5) (by decide) dX8_program_181 ?_
              refine go_aload_n (pc := 182) rfl dX8_program_182 ?_
              refine gi_get (pc := 183) (lo := 0) (hi := 1) hvx fL_X8_187 rfl (Nat.le_of_ble_eq_true rfl) rfl rfl dX8_program_183 (fun v42 v42l v42u v42w => ?_)
              have v42r : v1 = hx.2.1 70 6 := v1w
              have v42q : TI v42 v1.toInt := by rw [v42w.trans v42r.symm]; exact (ti_rfl v1)
              refine gf_imul (pc := 186) (ti_c (v := 5) (a := 5) (by decide)) v42q (by omega) (by omega) dX8_program_186 (fun v43 e44 => ?_)
              refine go_iload_n (pc := 187) rfl dX8_program_187 ?_
              refine gf_iadd (pc := 188) e44 (ti_rfl l1) (by omega) (by omega) dX8_program_188 (fun v45 e46 => ?_)
              refine gi_zald (pc := 189) (lo := 0) (hi := 1) (len := 10) hvx e46 rfl (by omega) (by omega) (fun _ => rfl) dX8_program_189 (fun v47 v47l v47u v47w => ?_)
              have v47V : v47.toInt = V hx.2.1 102 (((5 * S) + l1.toInt)) := by rw [v47w, v1S]; rfl
              refine gf_if_ne (pc := 190) (tgt := 199) (ti_rfl v47) (by decide) dX8_program_190 (fun q48 => ?_) (fun q48 => ?_)
              ·
                refine gf_iinc (pc := 199) (Nat.le_of_ble_eq_true rfl) rfl (ti_rfl l1) (ti_c (by decide)) (by omega) (by omega) dX8_program_199 (fun v49 e50 => ?_)
                refine go_lv (lv2 := [(0, .ref 70), (1, .int v49)]) rfl ?_
                refine go_goto (pc := 202) (tgt := 141) (by decide) dX8_program_202 ?_
                have z51 : (v49 : Int32).toInt = (l1.toInt + 1) := e50
                have g52 : (-2147483648 : Int) ≤ (hx.2.1 70 5).toInt := (hvx.2.1 70 5).1
                have g53 : (hx.2.1 70 5).toInt ≤ 2147483647 := (hvx.2.1 70 5).2
                exact go_lv rfl (ih v49 _ hx hvx sqx (by omega) (by omega) x0 ohx ckx (by omega) (by omega) (by omega))
              ·
                refine go_aload_n (pc := 193) rfl dX8_program_193 ?_
                refine go_bipush (pc := 194) (v := 6) (by decide) dX8_program_194 ?_
                have g54 : (-2147483648 : Int) ≤ (hx.2.1 70 5).toInt := (hvx.2.1 70 5).1
                have g55 : (hx.2.1 70 5).toInt ≤ 2147483647 := (hvx.2.1 70 5).2
                refine go_invV (pc := 196) (sl := 0) (s_X8_fails l (d + 598) hvx 6 (by rw [show (6 : Int32).toInt = 6 from (ti_c (v := 6) (a := 6) (by decide))]; omega) (by rw [show (6 : Int32).toInt = 6 from (ti_c (v := 6) (a := 6) (by decide))]; omega)) mL_X8_180 iM_X8_fails sM_X8_fails (hvx.sh rfl) rfl rfl rfl (Nat.le_of_ble_eq_true rfl) (show d + 598 + 1 + 1 ≤ d + 600 by omega) (show 8 + (2 + 11) + 40 * (d + 598 + 1) ≤ 40 * (d + 600) by omega) (g_c0 hvx.ln) (Nat.le_of_ble_eq_true rfl) dX8_program_196 ?_
                intro r h56 hq _
                obtain ⟨rfl, hv56, f57, f58⟩ := hq
                try rw [show (6 : Int32).toInt = 6 from (ti_c (v := 6) (a := 6) (by decide))] at f57
                try rw [show (6 : Int32).toInt = 6 from (ti_c (v := 6) (a := 6) (by decide))] at f58
                have ve56 : VE hx.2.1 h56.2.1 := VE.of hvx hv56
                have oh56 : OH h.2.1 h56.2.1 S := ohx.trans (OH.of hvx hv56 S)
                have ck56 : CKF h.2.1 → CKF h56.2.1 := fun z => CKF.ve ve56 (ckx z)
                have n73_56 : V h56.2.1 73 S = V hx.2.1 73 S := ve56.v (by omega) (by omega)
                have n74_56 : V h56.2.1 74 S = V hx.2.1 74 S := ve56.v (by omega) (by omega)
                have n75_56 : V h56.2.1 75 S = V hx.2.1 75 S := ve56.v (by omega) (by omega)
                obtain ⟨u59, u59w⟩ : ∃ v : Int32, v = h56.2.1 70 5 := ⟨_, rfl⟩
                have u59e : (h56.2.1 70 5).toInt = u59.toInt := by rw [u59w]
                have u59l : -2147483648 ≤ u59.toInt := by rw [u59w]; exact (hv56.2.1 70 5).1
                have u59u : u59.toInt ≤ 2147483647 := by rw [u59w]; exact (hv56.2.1 70 5).2
                refine gf_iinc (pc := 199) (Nat.le_of_ble_eq_true rfl) rfl (ti_rfl l1) (ti_c (by decide)) (by omega) (by omega) dX8_program_199 (fun v60 e61 => ?_)
                refine go_lv (lv2 := [(0, .ref 70), (1, .int v60)]) rfl ?_
                refine go_goto (pc := 202) (tgt := 141) (by decide) dX8_program_202 ?_
                have z62 : (v60 : Int32).toInt = (l1.toInt + 1) := e61
                have g63 : (-2147483648 : Int) ≤ (h56.2.1 70 5).toInt := (hv56.2.1 70 5).1
                have g64 : (h56.2.1 70 5).toInt ≤ 2147483647 := (hv56.2.1 70 5).2
                have g65 : (h56.2.1 70 5).toInt = u59.toInt := by rw [← (show u59 = h56.2.1 70 5 from u59w)] <;> exact (ti_rfl u59)
                exact go_lv rfl (ih v60 _ h56 hv56 sqx (by omega) (by omega) (PB.kx (KX.ve (m := 102) (by omega) ve56) (by omega) x0) oh56 ck56 (by omega) (by omega) (by omega))
  obtain ⟨u70_5, u70_5w⟩ : ∃ v : Int32, v = h.2.1 70 5 := ⟨_, rfl⟩
  have u70_5e : (h.2.1 70 5).toInt = u70_5.toInt := by rw [u70_5w]
  have u70_5l : -2147483648 ≤ u70_5.toInt := by rw [u70_5w]; exact (hv.2.1 70 5).1
  have u70_5u : u70_5.toInt ≤ 2147483647 := by rw [u70_5w]; exact (hv.2.1 70 5).2
  refine go_aload_n (pc := 61) rfl dX8_program_61 ?_
  refine gi_getF (pc := 62) (q := 73) hv fL_X8_16 rfl (Nat.le_of_ble_eq_true rfl) rfl (hv.rf (by decide)) dX8_program_62 ?_
  refine go_aload_n (pc := 65) rfl dX8_program_65 ?_
  refine gi_get (pc := 66) (lo := 0) (hi := 1) hv fL_X8_187 rfl (Nat.le_of_ble_eq_true rfl) rfl rfl dX8_program_66 (fun v66 v66l v66u v66w => ?_)
  have v66S : v66.toInt = S := by rw [v66w]; exact (congrArg Int32.toInt oh.side).trans hS.symm
  refine go_iconst (pc := 69) (v := 0) (by decide) dX8_program_69 ?_
  refine gi_fst (pc := 70) (lo := 0) (hi := 130) (len := 2) hv (ti_rfl v66) (ti_c (v := 0) (a := 0) (by decide)) rfl (by omega) (by omega) (fun _ => rfl) (by omega) (by omega) (by omega) dX8_program_70 (fun h67 hv67 hv67e => ?_)
  refine go_aload_n (pc := 71) rfl dX8_program_71 ?_
  refine gi_getF (pc := 72) (q := 74) hv67 fL_X8_20 rfl (Nat.le_of_ble_eq_true rfl) rfl (hv67.rf (by decide)) dX8_program_72 ?_
  refine go_aload_n (pc := 75) rfl dX8_program_75 ?_
  refine gi_get (pc := 76) (lo := 0) (hi := 1) hv67 fL_X8_187 rfl (Nat.le_of_ble_eq_true rfl) rfl rfl dX8_program_76 (fun v68 v68l v68u v68w => ?_)
  have v68r : v66 = h67.2.1 70 6 := (show v66 = h67.2.1 70 6 from by rw [hv67e]; exact (g_iI rfl v66w.symm).symm)
  have v68q : TI v68 v66.toInt := by rw [v68w.trans v68r.symm]; exact (ti_rfl v66)
  refine go_iconst (pc := 79) (v := 0) (by decide) dX8_program_79 ?_
  refine gi_fst (pc := 80) (lo := 0) (hi := 280) (len := 2) hv67 v68q (ti_c (v := 0) (a := 0) (by decide)) rfl (by omega) (by omega) (fun _ => rfl) (by omega) (by omega) (by omega) dX8_program_80 (fun h69 hv69 hv69e => ?_)
  refine go_aload_n (pc := 81) rfl dX8_program_81 ?_
  refine gi_getF (pc := 82) (q := 75) hv69 fL_X8_23 rfl (Nat.le_of_ble_eq_true rfl) rfl (hv69.rf (by decide)) dX8_program_82 ?_
  refine go_aload_n (pc := 85) rfl dX8_program_85 ?_
  refine gi_get (pc := 86) (lo := 0) (hi := 1) hv69 fL_X8_187 rfl (Nat.le_of_ble_eq_true rfl) rfl rfl dX8_program_86 (fun v70 v70l v70u v70w => ?_)
  have v70r : v66 = h69.2.1 70 6 := (show v66 = h69.2.1 70 6 from by rw [hv69e]; exact (g_iI rfl (show v66 = h67.2.1 70 6 from by rw [hv67e]; exact (g_iI rfl v66w.symm).symm).symm).symm)
  have v70q : TI v70 v66.toInt := by rw [v70w.trans v70r.symm]; exact (ti_rfl v66)
  refine go_iconst (pc := 89) (v := 0) (by decide) dX8_program_89 ?_
  refine gi_fst (pc := 90) (lo := 0) (hi := 40) (len := 2) hv69 v70q (ti_c (v := 0) (a := 0) (by decide)) rfl (by omega) (by omega) (fun _ => rfl) (by omega) (by omega) (by omega) dX8_program_90 (fun h71 hv71 hv71e => ?_)
  refine go_aload_n (pc := 91) rfl dX8_program_91 ?_
  refine gi_getF (pc := 92) (q := 76) hv71 fL_X8_26 rfl (Nat.le_of_ble_eq_true rfl) rfl (hv71.rf (by decide)) dX8_program_92 ?_
  refine go_aload_n (pc := 95) rfl dX8_program_95 ?_
  refine gi_get (pc := 96) (lo := 0) (hi := 1) hv71 fL_X8_187 rfl (Nat.le_of_ble_eq_true rfl) rfl rfl dX8_program_96 (fun v72 v72l v72u v72w => ?_)
  have v72r : v66 = h71.2.1 70 6 := (show v66 = h71.2.1 70 6 from by rw [hv71e]; exact (g_iI rfl (show v66 = h69.2.1 70 6 from by rw [hv69e]; exact (g_iI rfl (show v66 = h67.2.1 70 6 from by rw [hv67e]; exact (g_iI rfl v66w.symm).symm).symm).symm).symm).symm)
  have v72q : TI v72 v66.toInt := by rw [v72w.trans v72r.symm]; exact (ti_rfl v66)
  refine go_iconst (pc := 99) (v := 0) (by decide) dX8_program_99 ?_
  refine gi_fst (pc := 100) (lo := 0) (hi := 5) (len := 2) hv71 v72q (ti_c (v := 0) (a := 0) (by decide)) rfl (by omega) (by omega) (fun _ => rfl) (by omega) (by omega) (by omega) dX8_program_100 (fun h73 hv73 hv73e => ?_)
  refine go_aload_n (pc := 101) rfl dX8_program_101 ?_
  have E73 : h73.2.1 = (w1 (w1 (w1 (w1 h.2.1 73 S (0 : Int32)) 74 S (0 : Int32)) 75 S (0 : Int32)) 76 S (0 : Int32)) := by
    rw [hv73e, hv71e, hv69e, hv67e]
    rw [v66S]
    rfl
  have oh73 : OH h.2.1 h73.2.1 S := by rw [E73]; exact ((((oh.trans (OH.w 1 rfl (by omega) (by omega) (by omega) (by omega))).trans (OH.w 1 rfl (by omega) (by omega) (by omega) (by omega))).trans (OH.w 1 rfl (by omega) (by omega) (by omega) (by omega))).trans (OH.w 1 rfl (by omega) (by omega) (by omega) (by omega)))
  have n73_73 : V h73.2.1 73 S = 0 := by rw [E73, V_ne (by omega), V_ne (by omega), V_ne (by omega), V_eq]; exact (ti_c (v := 0) (a := 0) (by decide))
  have n74_73 : V h73.2.1 74 S = 0 := by rw [E73, V_ne (by omega), V_ne (by omega), V_eq]; exact (ti_c (v := 0) (a := 0) (by decide))
  have n75_73 : V h73.2.1 75 S = 0 := by rw [E73, V_ne (by omega), V_eq]; exact (ti_c (v := 0) (a := 0) (by decide))
  have ck73 : CKF h.2.1 → CKF h73.2.1 := fun z => by rw [E73]; exact (CKF.w (by omega) (CKF.w (by omega) (CKF.w (by omega) (CKF.w (by omega) (ck z)))))
  have g74 : (-2147483648 : Int) ≤ (h73.2.1 70 5).toInt := (hv73.2.1 70 5).1
  have g75 : (h73.2.1 70 5).toInt ≤ 2147483647 := (hv73.2.1 70 5).2
  have g76 : (h73.2.1 70 5).toInt = u70_5.toInt := by rw [← (show u70_5 = h73.2.1 70 5 from (show u70_5 = h73.2.1 70 5 from by rw [hv73e]; exact (g_iI rfl (show u70_5 = h71.2.1 70 5 from by rw [hv71e]; exact (g_iI rfl (show u70_5 = h69.2.1 70 5 from by rw [hv69e]; exact (g_iI rfl (show u70_5 = h67.2.1 70 5 from by rw [hv67e]; exact (g_iI rfl u70_5w.symm).symm).symm).symm).symm).symm).symm).symm))] <;> exact (ti_rfl u70_5)
  have n76 : V h73.2.1 76 S = 0 := by rw [E73, V_eq]; exact (ti_c (v := 0) (a := 0) (by decide))
  have sM77 : (h73.2.1 70 6).toInt = S := (congrArg Int32.toInt oh73.side).trans hS.symm
  have g78 : (-2147483648 : Int) ≤ (h73.2.1 70 5).toInt := (hv73.2.1 70 5).1
  have g79 : (h73.2.1 70 5).toInt ≤ 2147483647 := (hv73.2.1 70 5).2
  have g80 : (h73.2.1 70 5).toInt = u70_5.toInt := by rw [← (show u70_5 = h73.2.1 70 5 from (show u70_5 = h73.2.1 70 5 from by rw [hv73e]; exact (g_iI rfl (show u70_5 = h71.2.1 70 5 from by rw [hv71e]; exact (g_iI rfl (show u70_5 = h69.2.1 70 5 from by rw [hv69e]; exact (g_iI rfl (show u70_5 = h67.2.1 70 5 from by rw [hv67e]; exact (g_iI rfl u70_5w.symm).symm).symm).symm).symm).symm).symm).symm))] <;> exact (ti_rfl u70_5)
  refine go_invV (pc := 102) (sl := 0) (s_X8_readAll l (d + 574) hv73 (by rw [sM77]; exact ⟨by omega, by omega, by omega, by omega, by omega⟩)) mL_X8_231 iM_X8_readAll sM_X8_readAll (hv73.sh rfl) rfl rfl rfl (Nat.le_of_ble_eq_true rfl) (show d + 574 + 25 + 1 ≤ d + 600 by omega) (show 8 + (3 + 11) + 40 * (d + 574 + 25) ≤ 40 * (d + 600) by omega) (g_c0 hv73.ln) (Nat.le_of_ble_eq_true rfl) dX8_program_102 ?_
  intro r h81 hq _
  obtain ⟨rfl, ⟨Q82, hv81, sq83⟩, f84, f85, f86⟩ := hq
  rw [sM77] at f84
  rw [sM77] at f85
  have oh81 : OH h.2.1 h81.2.1 S := oh73.trans f85
  have ck81 : CKF h.2.1 → CKF h81.2.1 := fun z => f86 (ck73 z)
  obtain ⟨u87, u87w⟩ : ∃ v : Int32, v = h81.2.1 70 5 := ⟨_, rfl⟩
  have u87e : (h81.2.1 70 5).toInt = u87.toInt := by rw [u87w]
  have u87l : -2147483648 ≤ u87.toInt := by rw [u87w]; exact (hv81.2.1 70 5).1
  have u87u : u87.toInt ≤ 2147483647 := by rw [u87w]; exact (hv81.2.1 70 5).2
  refine go_aload_n (pc := 105) rfl dX8_program_105 ?_
  refine go_invV (pc := 106) (sl := 0) (s_X8_isGood l (d + 598) hv81 ) mL_X8_172 iM_X8_isGood sM_X8_isGood (hv81.sh rfl) rfl rfl rfl (Nat.le_of_ble_eq_true rfl) (show d + 598 + 1 + 1 ≤ d + 600 by omega) (show 8 + (1 + 11) + 40 * (d + 598 + 1) ≤ 40 * (d + 600) by omega) (g_c0 hv81.ln) (Nat.le_of_ble_eq_true rfl) dX8_program_106 ?_
  intro r h88 hq _
  obtain ⟨v91, rfl, v91l, v91u, rfl, f89, f90⟩ := hq
  refine gf_if_eq (pc := 109) (tgt := 124) (ti_rfl v91) (by decide) dX8_program_109 (fun q92 => ?_) (fun q92 => ?_)
  ·
    refine go_aload_n (pc := 124) rfl dX8_program_124 ?_
    refine go_invV (pc := 125) (sl := 0) (s_X8_isGood l (d + 598) hv81 ) mL_X8_172 iM_X8_isGood sM_X8_isGood (hv81.sh rfl) rfl rfl rfl (Nat.le_of_ble_eq_true rfl) (show d + 598 + 1 + 1 ≤ d + 600 by omega) (show 8 + (1 + 11) + 40 * (d + 598 + 1) ≤ 40 * (d + 600) by omega) (g_c0 hv81.ln) (Nat.le_of_ble_eq_true rfl) dX8_program_125 ?_
    intro r h93 hq _
    obtain ⟨v96, rfl, v96l, v96u, rfl, f94, f95⟩ := hq
    refine gf_if_eq (pc := 128) (tgt := 205) (ti_rfl v96) (by decide) dX8_program_128 (fun q97 => ?_) (fun q97 => ?_)
    ·
      refine go_aload_n (pc := 205) rfl dX8_program_205 ?_
      refine go_invV (pc := 206) (sl := 0) (s_X8_isGood l (d + 598) hv81 ) mL_X8_172 iM_X8_isGood sM_X8_isGood (hv81.sh rfl) rfl rfl rfl (Nat.le_of_ble_eq_true rfl) (show d + 598 + 1 + 1 ≤ d + 600 by omega) (show 8 + (1 + 11) + 40 * (d + 598 + 1) ≤ 40 * (d + 600) by omega) (g_c0 hv81.ln) (Nat.le_of_ble_eq_true rfl) dX8_program_206 ?_
      intro r h98 hq _
      obtain ⟨v101, rfl, v101l, v101u, rfl, f99, f100⟩ := hq
      refine gf_if_ne (pc := 209) (tgt := 215) (ti_rfl v101) (by decide) dX8_program_209 (fun q102 => ?_) (fun q102 => ?_)
      ·
        exact False.elim (by omega)
      ·
        refine go_bipush (pc := 212) (v := (-2)) (by decide) dX8_program_212 ?_
        have g103 : (-2147483648 : Int) ≤ (h81.2.1 70 5).toInt := (hv81.2.1 70 5).1
        have g104 : (h81.2.1 70 5).toInt ≤ 2147483647 := (hv81.2.1 70 5).2
        have g105 : (h81.2.1 70 5).toInt = u87.toInt := by rw [← (show u87 = h81.2.1 70 5 from u87w)] <;> exact (ti_rfl u87)
        have pp106 : (CKF h81.2.1) := (ck81 ckf)
        have pp107 : LV h81.2.1 := (LV.oh hv oh81 S0 hls hlv)
        subst hS
        exact gi_iret (pc := 214) (ti_c (v := (-2)) (a := (-2)) (by decide)) ⟨_, rfl, (ti_lo _), (ti_hi _), ⟨_, hv81, (MW.trans (MW.trans (MW.trans (MW.trans (MW.mz _ _) (MW.mz _ _)) (MW.mz _ _)) (MW.mz _ _)) sq83)⟩, pp106, pp107⟩ hv81 dX8_program_214
    ·
      refine go_aload_n (pc := 131) rfl dX8_program_131 ?_
      exact False.elim (by omega)
  ·
    refine go_aload_n (pc := 112) rfl dX8_program_112 ?_
    have sM108 : (h81.2.1 70 6).toInt = S := (congrArg Int32.toInt oh81.side).trans hS.symm
    refine go_invV (pc := 113) (sl := 0) (s_X8_isTold l (d + 598) hv81 ) mL_X8_234 iM_X8_isTold sM_X8_isTold (hv81.sh rfl) rfl rfl rfl (Nat.le_of_ble_eq_true rfl) (show d + 598 + 1 + 1 ≤ d + 600 by omega) (show 8 + (2 + 11) + 40 * (d + 598 + 1) ≤ 40 * (d + 600) by omega) (g_c0 hv81.ln) (Nat.le_of_ble_eq_true rfl) dX8_program_113 ?_
    intro r h109 hq _
    obtain ⟨v111, rfl, v111l, v111u, rfl, f110⟩ := hq
    rw [sM108] at f110
    refine gf_if_ne (pc := 116) (tgt := 124) (ti_rfl v111) (by decide) dX8_program_116 (fun q112 => ?_) (fun q112 => ?_)
    ·
      refine go_aload_n (pc := 124) rfl dX8_program_124 ?_
      refine go_invV (pc := 125) (sl := 0) (s_X8_isGood l (d + 598) hv81 ) mL_X8_172 iM_X8_isGood sM_X8_isGood (hv81.sh rfl) rfl rfl rfl (Nat.le_of_ble_eq_true rfl) (show d + 598 + 1 + 1 ≤ d + 600 by omega) (show 8 + (1 + 11) + 40 * (d + 598 + 1) ≤ 40 * (d + 600) by omega) (g_c0 hv81.ln) (Nat.le_of_ble_eq_true rfl) dX8_program_125 ?_
      intro r h113 hq _
      obtain ⟨v116, rfl, v116l, v116u, rfl, f114, f115⟩ := hq
      refine gf_if_eq (pc := 128) (tgt := 205) (ti_rfl v116) (by decide) dX8_program_128 (fun q117 => ?_) (fun q117 => ?_)
      ·
        refine go_aload_n (pc := 205) rfl dX8_program_205 ?_
        refine go_invV (pc := 206) (sl := 0) (s_X8_isGood l (d + 598) hv81 ) mL_X8_172 iM_X8_isGood sM_X8_isGood (hv81.sh rfl) rfl rfl rfl (Nat.le_of_ble_eq_true rfl) (show d + 598 + 1 + 1 ≤ d + 600 by omega) (show 8 + (1 + 11) + 40 * (d + 598 + 1) ≤ 40 * (d + 600) by omega) (g_c0 hv81.ln) (Nat.le_of_ble_eq_true rfl) dX8_program_206 ?_
        intro r h118 hq _
        obtain ⟨v121, rfl, v121l, v121u, rfl, f119, f120⟩ := hq
        refine gf_if_ne (pc := 209) (tgt := 215) (ti_rfl v121) (by decide) dX8_program_209 (fun q122 => ?_) (fun q122 => ?_)
        ·
          exact False.elim (by omega)
        ·
          refine go_bipush (pc := 212) (v := (-2)) (by decide) dX8_program_212 ?_
          have g123 : (-2147483648 : Int) ≤ (h81.2.1 70 5).toInt := (hv81.2.1 70 5).1
          have g124 : (h81.2.1 70 5).toInt ≤ 2147483647 := (hv81.2.1 70 5).2
          have g125 : (h81.2.1 70 5).toInt = u87.toInt := by rw [← (show u87 = h81.2.1 70 5 from u87w)] <;> exact (ti_rfl u87)
          have pp126 : (CKF h81.2.1) := (ck81 ckf)
          have pp127 : LV h81.2.1 := (LV.oh hv oh81 S0 hls hlv)
          subst hS
          exact gi_iret (pc := 214) (ti_c (v := (-2)) (a := (-2)) (by decide)) ⟨_, rfl, (ti_lo _), (ti_hi _), ⟨_, hv81, (MW.trans (MW.trans (MW.trans (MW.trans (MW.mz _ _) (MW.mz _ _)) (MW.mz _ _)) (MW.mz _ _)) sq83)⟩, pp126, pp127⟩ hv81 dX8_program_214
      ·
        refine go_aload_n (pc := 131) rfl dX8_program_131 ?_
        have rdq := f84 (by omega)
        have tdq := f110 (by omega)
        have sM128 : (h81.2.1 70 6).toInt = S := (congrArg Int32.toInt oh81.side).trans hS.symm
        have g129 : (-2147483648 : Int) ≤ (h81.2.1 70 5).toInt := (hv81.2.1 70 5).1
        have g130 : (h81.2.1 70 5).toInt ≤ 2147483647 := (hv81.2.1 70 5).2
        have g131 : (h81.2.1 70 5).toInt = u87.toInt := by rw [← (show u87 = h81.2.1 70 5 from u87w)] <;> exact (ti_rfl u87)
        refine go_invV (pc := 132) (sl := 0) (s_X8_laysWays l (d + 58) hv81 (by rw [sM128]; exact rdq.1)) mL_X8_237 iM_X8_laysWays sM_X8_laysWays (hv81.sh rfl) rfl rfl rfl (Nat.le_of_ble_eq_true rfl) (show d + 58 + 541 + 1 ≤ d + 600 by omega) (show 8 + (5 + 11) + 40 * (d + 58 + 541) ≤ 40 * (d + 600) by omega) (g_c0 hv81.ln) (Nat.le_of_ble_eq_true rfl) dX8_program_132 ?_
        intro r h132 hq _
        obtain ⟨rfl, ⟨Q133, hv132, sq134⟩, f135, f136, f137, f138⟩ := hq
        rw [sM128] at f136
        rw [sM128] at f137
        have oh132 : OH h.2.1 h132.2.1 S := oh81.trans f137
        have ck132 : CKF h.2.1 → CKF h132.2.1 := fun z => f138 (ck81 z)
        obtain ⟨u139, u139w⟩ : ∃ v : Int32, v = h132.2.1 70 5 := ⟨_, rfl⟩
        have u139e : (h132.2.1 70 5).toInt = u139.toInt := by rw [u139w]
        have u139l : -2147483648 ≤ u139.toInt := by rw [u139w]; exact (hv132.2.1 70 5).1
        have u139u : u139.toInt ≤ 2147483647 := by rw [u139w]; exact (hv132.2.1 70 5).2
        refine go_aload_n (pc := 135) rfl dX8_program_135 ?_
        have sM140 : (h132.2.1 70 6).toInt = S := (congrArg Int32.toInt oh132.side).trans hS.symm
        have g141 : (-2147483648 : Int) ≤ (h132.2.1 70 5).toInt := (hv132.2.1 70 5).1
        have g142 : (h132.2.1 70 5).toInt ≤ 2147483647 := (hv132.2.1 70 5).2
        have g143 : (h132.2.1 70 5).toInt = u139.toInt := by rw [← (show u139 = h132.2.1 70 5 from u139w)] <;> exact (ti_rfl u139)
        refine go_invV (pc := 136) (sl := 0) (s_X8_laysMay l (d + 593) hv132 (ck132 ckf)) mL_X8_240 iM_X8_laysMay sM_X8_laysMay (hv132.sh rfl) rfl rfl rfl (Nat.le_of_ble_eq_true rfl) (show d + 593 + 6 + 1 ≤ d + 600 by omega) (show 8 + (6 + 11) + 40 * (d + 593 + 6) ≤ 40 * (d + 600) by omega) (g_c0 hv132.ln) (Nat.le_of_ble_eq_true rfl) dX8_program_136 ?_
        intro r h144 hq _
        obtain ⟨rfl, ⟨Q145, hv144, sq146⟩, f147, f148, f149⟩ := hq
        rw [sM140] at f148
        have oh144 : OH h.2.1 h144.2.1 S := oh132.trans f148
        have ck144 : CKF h.2.1 → CKF h144.2.1 := fun z => f149 (ck132 z)
        obtain ⟨u150, u150w⟩ : ∃ v : Int32, v = h144.2.1 70 5 := ⟨_, rfl⟩
        have u150e : (h144.2.1 70 5).toInt = u150.toInt := by rw [u150w]
        have u150l : -2147483648 ≤ u150.toInt := by rw [u150w]; exact (hv144.2.1 70 5).1
        have u150u : u150.toInt ≤ 2147483647 := by rw [u150w]; exact (hv144.2.1 70 5).2
        have pb0 : PB h144.2.1 S := PB.kx f147 (by omega) (PB.ways f135 rdq.1 tdq rdq.2 f136)
        refine go_iconst (pc := 139) (v := 0) (by decide) dX8_program_139 ?_
        refine go_istore_n (pc := 140) (Nat.le_of_ble_eq_true rfl) dX8_program_140 (go_lv (lv2 := [(0, .ref 70), (1, .int 0)]) rfl ?_)
        have z151 : (0 : Int32).toInt = 0 := (ti_c (v := 0) (a := 0) (by decide))
        have g152 : (-2147483648 : Int) ≤ (h144.2.1 70 5).toInt := (hv144.2.1 70 5).1
        have g153 : (h144.2.1 70 5).toInt ≤ 2147483647 := (hv144.2.1 70 5).2
        have g154 : (h144.2.1 70 5).toInt = u150.toInt := by rw [← (show u150 = h144.2.1 70 5 from u150w)] <;> exact (ti_rfl u150)
        exact go_lv rfl ((key 101) 0 _ h144 hv144 (MW.trans (MW.trans (MW.trans (MW.trans (MW.trans (MW.trans (MW.mz _ _) (MW.mz _ _)) (MW.mz _ _)) (MW.mz _ _)) sq83) sq134) sq146) (by omega) (by omega) pb0 oh144 ck144 (by omega) (by omega) (by omega))
    ·
      refine go_aload_n (pc := 119) rfl dX8_program_119 ?_
      refine go_iconst (pc := 120) (v := 5) (by decide) dX8_program_120 ?_
      have g155 : (-2147483648 : Int) ≤ (h81.2.1 70 5).toInt := (hv81.2.1 70 5).1
      have g156 : (h81.2.1 70 5).toInt ≤ 2147483647 := (hv81.2.1 70 5).2
      have g157 : (h81.2.1 70 5).toInt = u87.toInt := by rw [← (show u87 = h81.2.1 70 5 from u87w)] <;> exact (ti_rfl u87)
      refine go_invV (pc := 121) (sl := 0) (s_X8_fails l (d + 598) hv81 5 (by rw [show (5 : Int32).toInt = 5 from (ti_c (v := 5) (a := 5) (by decide))]; omega) (by rw [show (5 : Int32).toInt = 5 from (ti_c (v := 5) (a := 5) (by decide))]; omega)) mL_X8_180 iM_X8_fails sM_X8_fails (hv81.sh rfl) rfl rfl rfl (Nat.le_of_ble_eq_true rfl) (show d + 598 + 1 + 1 ≤ d + 600 by omega) (show 8 + (2 + 11) + 40 * (d + 598 + 1) ≤ 40 * (d + 600) by omega) (g_c0 hv81.ln) (Nat.le_of_ble_eq_true rfl) dX8_program_121 ?_
      intro r h158 hq _
      obtain ⟨rfl, hv158, f159, f160⟩ := hq
      try rw [show (5 : Int32).toInt = 5 from (ti_c (v := 5) (a := 5) (by decide))] at f159
      try rw [show (5 : Int32).toInt = 5 from (ti_c (v := 5) (a := 5) (by decide))] at f160
      have ve158 : VE h81.2.1 h158.2.1 := VE.of hv81 hv158
      have oh158 : OH h.2.1 h158.2.1 S := oh81.trans (OH.of hv81 hv158 S)
      have ck158 : CKF h.2.1 → CKF h158.2.1 := fun z => CKF.ve ve158 (ck81 z)
      have n73_158 : V h158.2.1 73 S = V h81.2.1 73 S := ve158.v (by omega) (by omega)
      have n74_158 : V h158.2.1 74 S = V h81.2.1 74 S := ve158.v (by omega) (by omega)
      have n75_158 : V h158.2.1 75 S = V h81.2.1 75 S := ve158.v (by omega) (by omega)
      obtain ⟨u161, u161w⟩ : ∃ v : Int32, v = h158.2.1 70 5 := ⟨_, rfl⟩
      have u161e : (h158.2.1 70 5).toInt = u161.toInt := by rw [u161w]
      have u161l : -2147483648 ≤ u161.toInt := by rw [u161w]; exact (hv158.2.1 70 5).1
      have u161u : u161.toInt ≤ 2147483647 := by rw [u161w]; exact (hv158.2.1 70 5).2
      refine go_aload_n (pc := 124) rfl dX8_program_124 ?_
      refine go_invV (pc := 125) (sl := 0) (s_X8_isGood l (d + 598) hv158 ) mL_X8_172 iM_X8_isGood sM_X8_isGood (hv158.sh rfl) rfl rfl rfl (Nat.le_of_ble_eq_true rfl) (show d + 598 + 1 + 1 ≤ d + 600 by omega) (show 8 + (1 + 11) + 40 * (d + 598 + 1) ≤ 40 * (d + 600) by omega) (g_c0 hv158.ln) (Nat.le_of_ble_eq_true rfl) dX8_program_125 ?_
      intro r h162 hq _
      obtain ⟨v165, rfl, v165l, v165u, rfl, f163, f164⟩ := hq
      refine gf_if_eq (pc := 128) (tgt := 205) (ti_rfl v165) (by decide) dX8_program_128 (fun q166 => ?_) (fun q166 => ?_)
      ·
        refine go_aload_n (pc := 205) rfl dX8_program_205 ?_
        refine go_invV (pc := 206) (sl := 0) (s_X8_isGood l (d + 598) hv158 ) mL_X8_172 iM_X8_isGood sM_X8_isGood (hv158.sh rfl) rfl rfl rfl (Nat.le_of_ble_eq_true rfl) (show d + 598 + 1 + 1 ≤ d + 600 by omega) (show 8 + (1 + 11) + 40 * (d + 598 + 1) ≤ 40 * (d + 600) by omega) (g_c0 hv158.ln) (Nat.le_of_ble_eq_true rfl) dX8_program_206 ?_
        intro r h167 hq _
        obtain ⟨v170, rfl, v170l, v170u, rfl, f168, f169⟩ := hq
        refine gf_if_ne (pc := 209) (tgt := 215) (ti_rfl v170) (by decide) dX8_program_209 (fun q171 => ?_) (fun q171 => ?_)
        ·
          exact False.elim (by omega)
        ·
          refine go_bipush (pc := 212) (v := (-2)) (by decide) dX8_program_212 ?_
          have g172 : (-2147483648 : Int) ≤ (h158.2.1 70 5).toInt := (hv158.2.1 70 5).1
          have g173 : (h158.2.1 70 5).toInt ≤ 2147483647 := (hv158.2.1 70 5).2
          have g174 : (h158.2.1 70 5).toInt = u161.toInt := by rw [← (show u161 = h158.2.1 70 5 from u161w)] <;> exact (ti_rfl u161)
          have pp175 : (CKF h158.2.1) := (ck158 ckf)
          have pp176 : LV h158.2.1 := (LV.oh hv oh158 S0 hls hlv)
          subst hS
          exact gi_iret (pc := 214) (ti_c (v := (-2)) (a := (-2)) (by decide)) ⟨_, rfl, (ti_lo _), (ti_hi _), ⟨_, hv158, (MW.trans (MW.trans (MW.trans (MW.trans (MW.mz _ _) (MW.mz _ _)) (MW.mz _ _)) (MW.mz _ _)) sq83)⟩, pp175, pp176⟩ hv158 dX8_program_214
      ·
        refine go_aload_n (pc := 131) rfl dX8_program_131 ?_
        exact False.elim (by omega)
set_option maxHeartbeats 4000000 in
set_option maxRecDepth 100000 in
theorem s_X8_program (l : Launch) (d : Nat) {P : PP} {h : HP} (hv : Iv P h) (ckf : CKF h.2.1) (hlv : LV h.2.1) : Mt l yX8_program cX8_program 2 (some .int) (d + 600) [.ref 70] h 0 0 (fun r h' => ∃ v : Int32, r = some (.int v) ∧ -2147483648 ≤ v.toInt ∧ v.toInt ≤ 2147483647 ∧ (∃ Q : PP, Iv Q h' ∧ PG P Q) ∧ ((CKF h'.2.1)) ∧ (LV h'.2.1)) := by
  refine Mt_iv hv (by decide) (Nat.le_of_ble_eq_true rfl) ?_
  show Go l RX8 cX8_program 2 (g_rm (d + 600) 0 0) "program" (some .int) 117 0 0 (fun _ _ => True) (fun r h' => ∃ v : Int32, r = some (.int v) ∧ -2147483648 ≤ v.toInt ∧ v.toInt ≤ 2147483647 ∧ (∃ Q : PP, Iv Q h' ∧ PG P Q) ∧ ((CKF h'.2.1)) ∧ (LV h'.2.1)) 0 0 [(0, .ref 70)] [] h
  have key : ∀ n : Nat, (∀ (l1 : Int32) (hx : HP), Iv P hx → 0 ≤ l1.toInt → l1.toInt ≤ 500 → (-2147483648 : Int) ≤ (hx.2.1 70 5).toInt → (hx.2.1 70 5).toInt ≤ 2147483647 → (600 - l1.toInt : Int) < n → Go l RX8 cX8_program 2 (g_rm (d + 600) 0 0) "program" (some .int) 117 0 0 (fun _ _ => True) (fun r h' => ∃ v : Int32, r = some (.int v) ∧ -2147483648 ≤ v.toInt ∧ v.toInt ≤ 2147483647 ∧ (∃ Q : PP, Iv Q h' ∧ PG P Q) ∧ ((CKF h'.2.1)) ∧ (LV h'.2.1)) 0 10 [(0, .ref 70), (1, .int l1)] [] hx) := by
    intro n
    induction n with
    | zero => exact (by intros; omega)
    | succ n ih =>
      refine ?_
      ·
        intro l1 hx hvx l1l l1u y0l y0u hm
        refine go_iload_n (pc := 10) rfl dX8_program_10 ?_
        refine go_aload_n (pc := 11) rfl dX8_program_11 ?_
        refine gi_get (pc := 12) (lo := 0) (hi := 500) hvx fL_X8_166 rfl (Nat.le_of_ble_eq_true rfl) rfl rfl dX8_program_12 (fun v1 v1l v1u v1w => ?_)
        refine gf_icmp_ge (pc := 15) (tgt := 36) (ti_rfl l1) (ti_rfl v1) (by decide) dX8_program_15 (fun q2 => ?_) (fun q2 => ?_)
        ·
          refine go_aload_n (pc := 36) rfl dX8_program_36 ?_
          refine go_iconst (pc := 37) (v := 0) (by decide) dX8_program_37 ?_
          refine gi_put1 (pc := 38) hvx (ti_c (v := 0) (a := 0) (by decide)) (fP_X8_151 _) (by omega) (by omega) dX8_program_38 (fun h3 hv3 hv3e => ?_)
          have z4 : (0 : Int32).toInt = 0 := (ti_c (v := 0) (a := 0) (by decide))
          refine go_aload_n (pc := 41) rfl dX8_program_41 ?_
          refine go_iconst (pc := 42) (v := 0) (by decide) dX8_program_42 ?_
          refine gi_put (pc := 43) (lo := 0) (hi := 500) hv3 (ti_c (v := 0) (a := 0) (by decide)) (fP_X8_163 _) rfl (Nat.le_of_ble_eq_true rfl) rfl rfl (by omega) (by omega) rfl rfl (by decide) (by decide) (by decide) (by decide) dX8_program_43 (fun h5 hv5 hv5e => ?_)
          refine go_aload_n (pc := 46) rfl dX8_program_46 ?_
          refine go_iconst (pc := 47) (v := 0) (by decide) dX8_program_47 ?_
          refine gi_put (pc := 48) (lo := -2147483648) (hi := 2147483647) hv5 (ti_c (v := 0) (a := 0) (by decide)) (fP_X8_169 _) rfl (Nat.le_of_ble_eq_true rfl) rfl rfl (ti_ge (ti_c (v := 0) (a := 0) (by decide))) (ti_le2 (ti_c (v := 0) (a := 0) (by decide))) rfl rfl (by decide) (by decide) (by decide) (by decide) dX8_program_48 (fun h6 hv6 hv6e => ?_)
          refine go_aload_n (pc := 51) rfl dX8_program_51 ?_
          refine go_iconst (pc := 52) (v := 1) (by decide) dX8_program_52 ?_
          refine go_aload_n (pc := 53) rfl dX8_program_53 ?_
          refine gi_get (pc := 54) (lo := 0) (hi := 1) hv6 fL_X8_228 rfl (Nat.le_of_ble_eq_true rfl) rfl rfl dX8_program_54 (fun v7 v7l v7u v7w => ?_)
          refine gf_isub (pc := 57) (ti_c (v := 1) (a := 1) (by decide)) (ti_rfl v7) (by omega) (by omega) dX8_program_57 (fun v8 e9 => ?_)
          refine gi_putG (pc := 58) (j := 6) hv6 e9 (fP_X8_187 _) (Nat.le_of_ble_eq_true rfl) rfl rfl rfl (by omega) (by omega) (by decide) dX8_program_58 (fun h10 hv10 hv10e => ?_)
          have ve61 : VE h.2.1 h10.2.1 := VE.trans (VE.of hv hvx) (fun c j a b => by rw [hv10e, hv6e, hv5e, hv3e]; show (if c = 70 ∧ j = 6 then _ else if c = 70 ∧ j = 5 then _ else if c = 70 ∧ j = 4 then _ else if c = 70 ∧ j = 2 then _ else hx.2.1 c j) = _; rw [if_neg (by omega), if_neg (by omega), if_neg (by omega), if_neg (by omega)])
          have e29 : h10.2.1 70 29 = h.2.1 70 29 := by rw [hv10e, hv6e, hv5e, hv3e]; show hx.2.1 70 29 = _; rw [hvx.fy (j := 29) (by omega), ← hv.fy (j := 29) (by omega)]
          have e30 : h10.2.1 70 30 = h.2.1 70 30 := by rw [hv10e, hv6e, hv5e, hv3e]; show hx.2.1 70 30 = _; rw [hvx.fy (j := 30) (by omega), ← hv.fy (j := 30) (by omega)]
          have a6 : h10.2.1 70 6 = v8 := by rw [hv10e]; rfl
          have a29 : h10.2.1 70 29 = v7 := by rw [hv10e]; exact v7w.symm
          have zq : v8.toInt = (1 - v7.toInt) := e9
          have f0 : (h10.2.1 70 5).toInt = 0 := by rw [hv10e, hv6e]; show (0 : Int32).toInt = 0; decide
          refine go_lv (lv2 := [(0, .ref 70)]) rfl (go_post ?_ (s_X8_program_b l d hv10 (CKF.ve ve61 ckf) (LV.cong ve61 e29 e30 hlv) f0 (by rw [a6, a29, zq]; omega)))
          intro r h' q
          obtain ⟨v, a, b, c, ⟨Q, e1, e2⟩, f1, f2⟩ := q
          exact ⟨v, a, b, c, ⟨Q, e1, e2.1, by rw [e2.2.1]; show (0 : Int32).toInt = 0; decide, e2.2.2.1, e2.2.2.2⟩, f1, f2⟩
        ·
          refine go_aload_n (pc := 18) rfl dX8_program_18 ?_
          refine gi_getF (pc := 19) (q := 72) hvx fL_X8_13 rfl (Nat.le_of_ble_eq_true rfl) rfl (hvx.rf (by decide)) dX8_program_19 ?_
          refine go_iload_n (pc := 22) rfl dX8_program_22 ?_
          refine go_aload_n (pc := 23) rfl dX8_program_23 ?_
          refine gi_getF (pc := 24) (q := 71) hvx fL_X8_7 rfl (Nat.le_of_ble_eq_true rfl) rfl (hvx.rf (by decide)) dX8_program_24 ?_
          refine go_iload_n (pc := 27) rfl dX8_program_27 ?_
          refine gi_bald (pc := 28) (lo := -128) (hi := 127) (len := 500) hvx (ti_rfl l1) rfl (by omega) (by omega) (fun _ => rfl) dX8_program_28 (fun v11 v11l v11u v11w => ?_)
          refine gi_bast (pc := 29) (len := 500) hvx (ti_rfl l1) rfl (by omega) (by omega) (fun _ => rfl) (by decide) dX8_program_29 (fun h12 hv12 hv12e => ?_)
          refine gf_iinc (pc := 30) (Nat.le_of_ble_eq_true rfl) rfl (ti_rfl l1) (ti_c (by decide)) (by omega) (by omega) dX8_program_30 (fun v13 e14 => ?_)
          refine go_lv (lv2 := [(0, .ref 70), (1, .int v13)]) rfl ?_
          refine go_goto (pc := 33) (tgt := 10) (by decide) dX8_program_33 ?_
          have z15 : (v13 : Int32).toInt = (l1.toInt + 1) := e14
          have g16 : (-2147483648 : Int) ≤ (h12.2.1 70 5).toInt := (hv12.2.1 70 5).1
          have g17 : (h12.2.1 70 5).toInt ≤ 2147483647 := (hv12.2.1 70 5).2
          exact go_lv rfl (ih v13 h12 hv12 (by omega) (by omega) (by omega) (by omega) (by omega))
  obtain ⟨u70_5, u70_5w⟩ : ∃ v : Int32, v = h.2.1 70 5 := ⟨_, rfl⟩
  have u70_5e : (h.2.1 70 5).toInt = u70_5.toInt := by rw [u70_5w]
  have u70_5l : -2147483648 ≤ u70_5.toInt := by rw [u70_5w]; exact (hv.2.1 70 5).1
  have u70_5u : u70_5.toInt ≤ 2147483647 := by rw [u70_5w]; exact (hv.2.1 70 5).2
  refine go_aload_n (pc := 0) rfl dX8_program_0 ?_
  refine go_aload_n (pc := 1) rfl dX8_program_1 ?_
  refine gi_get (pc := 2) (lo := 0) (hi := 500) hv fL_X8_151 rfl (Nat.le_of_ble_eq_true rfl) rfl rfl dX8_program_2 (fun v18 v18l v18u v18w => ?_)
  have v18p : v18.toInt = P.2.1.toInt := by rw [v18w]; exact congrArg Int32.toInt hv.t1
  refine gi_put (pc := 5) (lo := 0) (hi := 500) hv (ti_rfl v18) (fP_X8_166 _) rfl (Nat.le_of_ble_eq_true rfl) rfl rfl (by omega) (by omega) rfl rfl (by decide) (by decide) (by decide) (by decide) dX8_program_5 (fun h19 hv19 hv19e => ?_)
  refine go_iconst (pc := 8) (v := 0) (by decide) dX8_program_8 ?_
  refine go_istore_n (pc := 9) (Nat.le_of_ble_eq_true rfl) dX8_program_9 (go_lv (lv2 := [(0, .ref 70), (1, .int 0)]) rfl ?_)
  have z20 : (0 : Int32).toInt = 0 := (ti_c (v := 0) (a := 0) (by decide))
  have g21 : (-2147483648 : Int) ≤ (h19.2.1 70 5).toInt := (hv19.2.1 70 5).1
  have g22 : (h19.2.1 70 5).toInt ≤ 2147483647 := (hv19.2.1 70 5).2
  have g23 : (h19.2.1 70 5).toInt = u70_5.toInt := by rw [← (show u70_5 = h19.2.1 70 5 from (show u70_5 = h19.2.1 70 5 from by rw [hv19e]; exact (g_iI rfl u70_5w.symm).symm))] <;> exact (ti_rfl u70_5)
  exact go_lv rfl ((key 2001) 0 h19 hv19 (by omega) (by omega) (by omega) (by omega) (by omega))
