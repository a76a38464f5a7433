/-- what the class's reader keeps of P -/
def RQ (P Q : PP) : Prop := Q.1 = P.1 ∧ Q.2.1 = P.2.1 ∧ Q.2.2.2 = P.2.2.2
theorem RQ.rfl (P : PP) : RQ P P := ⟨_root_.rfl, _root_.rfl, _root_.rfl⟩
theorem RQ.trans {P Q R : PP} (h : RQ P Q) (g : RQ Q R) : RQ P R := ⟨g.1.trans h.1, g.2.1.trans h.2.1, g.2.2.trans h.2.2⟩
theorem Iv.putT {P : PP} {h : HP} (hi : Iv P h) : Iv P (hR h 34 0 (.ref 1)) := by
  obtain ⟨q1, q2, q3, q4, q5, q6, q7, q8, q9, q10, q12⟩ := hi
  refine ⟨q1, q2, fun q hq => ?_, fun q hq => ?_, fun _ => ?_, q6, q7, q8, q9, q10, q12⟩
  · have e : ∀ q ∈ rfs, ¬ (q.1 = 34 ∧ q.2.1 = 0) := by decide
    show (if q.1 = 34 ∧ q.2.1 = 0 then _ else h.2.2.2 q.1 q.2.1) = _
    rw [if_neg (e q hq)]; exact q3 q hq
  · have e : ∀ q ∈ rcs, ¬ (q.1 = 34 ∧ q.2 = 0) := by decide
    show (if q.1 = 34 ∧ q.2 = 0 then Value.ref 1 else h.2.2.2 q.1 q.2) = _ ∨ (if q.1 = 34 ∧ q.2 = 0 then Value.ref 1 else h.2.2.2 q.1 q.2) = _
    rw [if_neg (e q hq)]; exact q4 q hq
  · rfl
theorem Iv.putN {P : PP} {h : HP} {x : Int32} {a : Int} (hi : Iv P h) (ex : TI x a) (h1 : 0 ≤ a) (h2 : a ≤ 500) (ht : h.2.2.2 34 0 = .ref 1) : Iv P (hI h 34 1 x) := by
  obtain ⟨q1, q2, q3, q4, q5, q6, q7, q8, q9, q10, q12⟩ := hi
  refine ⟨q1, fun c' j' => ?_, q3, q4, fun _ => ht, fun c' hc' j' => ?_, q7, q8, fun c' hc' j' => ?_, q10, fun c' j' hc' => ?_⟩
  · show (rg c' j').1 ≤ (if c' = 34 ∧ j' = 1 then x else h.2.1 c' j').toInt ∧ (if c' = 34 ∧ j' = 1 then x else h.2.1 c' j').toInt ≤ (rg c' j').2
    by_cases e : c' = 34 ∧ j' = 1
    · rw [if_pos e, e.1, e.2, show x.toInt = a from ex]; exact ⟨h1, h2⟩
    · rw [if_neg e]; exact q2 c' j'
  · show (if c' + 2 = 34 ∧ j' = 1 then x else h.2.1 (c' + 2) j').toInt = 1 → 0 ≤ (if c' + 7 = 34 ∧ j' = 1 then x else h.2.1 (c' + 7) j').toInt
    rw [if_neg (by omega), if_neg (by omega)]
    exact q6 c' hc' j'
  · show (if c' = 34 ∧ j' = 1 then x else h.2.1 c' j') = _
    rw [if_neg (by omega)]; exact q9 c' hc' j'
  · show (if c' = 34 ∧ j' = 1 then x else h.2.1 c' j') = _
    rw [if_neg (by unfold fzn at hc'; omega)]; exact q12 c' j' hc'
theorem Iv.putX {P : PP} {h : HP} {k : Nat} (hi : Iv P h) (hk : k = 2 ∨ k = 18) : Iv (P.1, P.2.1, P.2.2.1, k, P.2.2.2.2) (hR h 0 3 (.ref k)) := by
  obtain ⟨q1, q2, q3, q4, q5, q6, q7, q8, q9, q10, q12⟩ := hi
  refine ⟨q1, q2, fun q hq => ?_, fun q hq => ?_, q5, q6, q7, q8, q9, rfl, q12⟩
  · have e : ∀ q ∈ rfs, ¬ (q.1 = 0 ∧ q.2.1 = 3) := by decide
    show (if q.1 = 0 ∧ q.2.1 = 3 then _ else h.2.2.2 q.1 q.2.1) = _
    rw [if_neg (e q hq)]; exact q3 q hq
  · show (if q.1 = 0 ∧ q.2 = 3 then Value.ref k else h.2.2.2 q.1 q.2) = _ ∨ (if q.1 = 0 ∧ q.2 = 3 then Value.ref k else h.2.2.2 q.1 q.2) = _
    by_cases e2 : q.1 = 0 ∧ q.2 = 3
    · rw [if_pos e2]; rcases hk with rfl | rfl
      · exact Or.inl rfl
      · exact Or.inr rfl
    · rw [if_neg e2]; exact q4 q hq
section GR
variable {l : Launch} {own : String} {cc : ByteArray} {nL : Nat} {R : Room} {nm : String} {rt : Option FieldType} {n0 mc ms : Nat} {Xf : Nat → State → Prop} {Qf : Option Value → HP → Prop} {sl pc : Nat} {lv : List (Nat × Value)} {st : List Value} {h : HP} {P : PP}
theorem gi_putT {idx : Nat} (hv : Iv P h) (hf : FP own nm idx 3 0) (hd : decode cc pc = .ok (.putfield idx, 3)) (k : ∀ h' : HP, Iv P h' → h' = hR h 34 0 (.ref 1) → Go l own cc nL R nm rt n0 mc ms Xf Qf sl (pc + 3) lv st h') : Go l own cc nL R nm rt n0 mc ms Xf Qf sl pc lv (.ref 1 :: .ref 34 :: st) h :=
  go_putR hf (hv.sh rfl) (Nat.le_of_ble_eq_true rfl) rfl (fun _ => rfl) (fun _ => rfl) hd (k _ hv.putT rfl)
theorem gi_putN {idx : Nat} {x : Int32} {a : Int} (hv : Iv P h) (ex : TI x a) (hf : FP own nm idx 3 1) (h1 : 0 ≤ a) (h2 : a ≤ 500) (ht : h.2.2.2 34 0 = .ref 1) (hd : decode cc pc = .ok (.putfield idx, 3)) (k : ∀ h' : HP, Iv P h' → h' = hI h 34 1 x → Go l own cc nL R nm rt n0 mc ms Xf Qf sl (pc + 3) lv st h') : Go l own cc nL R nm rt n0 mc ms Xf Qf sl pc lv (.int x :: .ref 34 :: st) h :=
  go_putI hf (hv.sh rfl) (Nat.le_of_ble_eq_true rfl) rfl (fun _ => rfl) (fun _ => rfl) hd (k _ (hv.putN ex h1 h2 ht) rfl)
theorem gi_putX {idx q : Nat} (hv : Iv P h) (hq : q = 2 ∨ q = 18) (hf : FP own nm idx 7 3) (hd : decode cc pc = .ok (.putfield idx, 3)) (k : ∀ h' : HP, Iv (P.1, P.2.1, P.2.2.1, q, P.2.2.2.2) h' → h' = hR h 0 3 (.ref q) → Go l own cc nL R nm rt n0 mc ms Xf Qf sl (pc + 3) lv st h') : Go l own cc nL R nm rt n0 mc ms Xf Qf sl pc lv (.ref q :: .ref 0 :: st) h :=
  go_putR hf (hv.sh rfl) (Nat.le_of_ble_eq_true rfl) rfl (fun _ => rfl) (fun _ => rfl) hd (k _ (hv.putX hq) rfl)
theorem gf_min {x y : Int32} {a b : Int} {idx : Nat} (ex : TI x a) (ey : TI y b) (hL : Cond.methodLink own idx Lib.Math.min.name ∈ gw) (hfr : 1 ≤ R.frames) (hlo : 21 ≤ R.locals) (hst : (st.map fun v => v.category).sum ≤ 8) (hcs : h.1.length - n0 ≤ R.cells) (hsl : sl ≤ R.slots) (hd : decode cc pc = .ok (.invokestatic idx, 3)) (k : ∀ v : Int32, (a ≤ b → v.toInt = a) → (b < a → v.toInt = b) → Go l own cc nL R nm rt n0 mc ms Xf Qf sl (pc + 3) lv (.int v :: st) h) : Go l own cc nL R nm rt n0 mc ms Xf Qf sl pc lv (.int y :: .int x :: st) h :=
  go_mmin hL hfr hlo hst hcs hsl hd (k _ (fun q => by rw [if_neg (fun w => by have := (ti_lt ey ex).mp w; omega)]; exact ex) (fun q => by rw [if_pos ((ti_lt ey ex).mpr q)]; exact ey))
end GR
theorem dX3_closeBlock_0 : decode cX3_closeBlock 0 = .ok (.aload_n 0, 1) := by decide +kernel
theorem dX3_closeBlock_1 : decode cX3_closeBlock 1 = .ok (.dup, 1) := by decide +kernel
theorem dX3_closeBlock_2 : decode cX3_closeBlock 2 = .ok (.getfield 19, 3) := by decide +kernel
theorem dX3_closeBlock_5 : decode cX3_closeBlock 5 = .ok (.iconst 1, 1) := by decide +kernel
theorem dX3_closeBlock_6 : decode cX3_closeBlock 6 = .ok (.iadd, 1) := by decide +kernel
theorem dX3_closeBlock_7 : decode cX3_closeBlock 7 = .ok (.putfield 19, 3) := by decide +kernel
theorem dX3_closeBlock_10 : decode cX3_closeBlock 10 = .ok (.aload_n 0, 1) := by decide +kernel
theorem dX3_closeBlock_11 : decode cX3_closeBlock 11 = .ok (.dup, 1) := by decide +kernel
theorem dX3_closeBlock_12 : decode cX3_closeBlock 12 = .ok (.getfield 32, 3) := by decide +kernel
theorem dX3_closeBlock_15 : decode cX3_closeBlock 15 = .ok (.iconst 1, 1) := by decide +kernel
theorem dX3_closeBlock_16 : decode cX3_closeBlock 16 = .ok (.isub, 1) := by decide +kernel
theorem dX3_closeBlock_17 : decode cX3_closeBlock 17 = .ok (.putfield 32, 3) := by decide +kernel
theorem dX3_closeBlock_20 : decode cX3_closeBlock 20 = .ok (.aload_n 0, 1) := by decide +kernel
theorem dX3_closeBlock_21 : decode cX3_closeBlock 21 = .ok (.getfield 35, 3) := by decide +kernel
theorem dX3_closeBlock_24 : decode cX3_closeBlock 24 = .ok (.aload_n 0, 1) := by decide +kernel
theorem dX3_closeBlock_25 : decode cX3_closeBlock 25 = .ok (.getfield 32, 3) := by decide +kernel
theorem dX3_closeBlock_28 : decode cX3_closeBlock 28 = .ok (.iaload, 1) := by decide +kernel
theorem dX3_closeBlock_29 : decode cX3_closeBlock 29 = .ok (.istore_n 1, 1) := by decide +kernel
theorem dX3_closeBlock_30 : decode cX3_closeBlock 30 = .ok (.iload_n 1, 1) := by decide +kernel
theorem dX3_closeBlock_31 : decode cX3_closeBlock 31 = .ok (.ifCond .ge 32, 3) := by decide +kernel
theorem dX3_closeBlock_34 : decode cX3_closeBlock 34 = .ok (.aload_n 0, 1) := by decide +kernel
theorem dX3_closeBlock_35 : decode cX3_closeBlock 35 = .ok (.getfield 28, 3) := by decide +kernel
theorem dX3_closeBlock_38 : decode cX3_closeBlock 38 = .ok (.getfield 122, 3) := by decide +kernel
theorem dX3_closeBlock_41 : decode cX3_closeBlock 41 = .ok (.aload_n 0, 1) := by decide +kernel
theorem dX3_closeBlock_42 : decode cX3_closeBlock 42 = .ok (.getfield 46, 3) := by decide +kernel
theorem dX3_closeBlock_45 : decode cX3_closeBlock 45 = .ok (.getfield 115, 3) := by decide +kernel
theorem dX3_closeBlock_48 : decode cX3_closeBlock 48 = .ok (.iconst 1, 1) := by decide +kernel
theorem dX3_closeBlock_49 : decode cX3_closeBlock 49 = .ok (.isub, 1) := by decide +kernel
theorem dX3_closeBlock_50 : decode cX3_closeBlock 50 = .ok (.aload_n 0, 1) := by decide +kernel
theorem dX3_closeBlock_51 : decode cX3_closeBlock 51 = .ok (.getfield 39, 3) := by decide +kernel
theorem dX3_closeBlock_54 : decode cX3_closeBlock 54 = .ok (.aload_n 0, 1) := by decide +kernel
theorem dX3_closeBlock_55 : decode cX3_closeBlock 55 = .ok (.getfield 32, 3) := by decide +kernel
theorem dX3_closeBlock_58 : decode cX3_closeBlock 58 = .ok (.iaload, 1) := by decide +kernel
theorem dX3_closeBlock_59 : decode cX3_closeBlock 59 = .ok (.iastore, 1) := by decide +kernel
theorem dX3_closeBlock_60 : decode cX3_closeBlock 60 = .ok (.goto 59, 3) := by decide +kernel
theorem dX3_closeBlock_63 : decode cX3_closeBlock 63 = .ok (.aload_n 0, 1) := by decide +kernel
theorem dX3_closeBlock_64 : decode cX3_closeBlock 64 = .ok (.getfield 42, 3) := by decide +kernel
theorem dX3_closeBlock_67 : decode cX3_closeBlock 67 = .ok (.aload_n 0, 1) := by decide +kernel
theorem dX3_closeBlock_68 : decode cX3_closeBlock 68 = .ok (.getfield 32, 3) := by decide +kernel
theorem dX3_closeBlock_71 : decode cX3_closeBlock 71 = .ok (.baload, 1) := by decide +kernel
theorem dX3_closeBlock_72 : decode cX3_closeBlock 72 = .ok (.ifCond .eq 24, 3) := by decide +kernel
theorem dX3_closeBlock_75 : decode cX3_closeBlock 75 = .ok (.aload_n 0, 1) := by decide +kernel
theorem dX3_closeBlock_76 : decode cX3_closeBlock 76 = .ok (.getfield 28, 3) := by decide +kernel
theorem dX3_closeBlock_79 : decode cX3_closeBlock 79 = .ok (.getfield 125, 3) := by decide +kernel
theorem dX3_closeBlock_82 : decode cX3_closeBlock 82 = .ok (.iload_n 1, 1) := by decide +kernel
theorem dX3_closeBlock_83 : decode cX3_closeBlock 83 = .ok (.aload_n 0, 1) := by decide +kernel
theorem dX3_closeBlock_84 : decode cX3_closeBlock 84 = .ok (.getfield 39, 3) := by decide +kernel
theorem dX3_closeBlock_87 : decode cX3_closeBlock 87 = .ok (.aload_n 0, 1) := by decide +kernel
theorem dX3_closeBlock_88 : decode cX3_closeBlock 88 = .ok (.getfield 32, 3) := by decide +kernel
theorem dX3_closeBlock_91 : decode cX3_closeBlock 91 = .ok (.iaload, 1) := by decide +kernel
theorem dX3_closeBlock_92 : decode cX3_closeBlock 92 = .ok (.iastore, 1) := by decide +kernel
theorem dX3_closeBlock_93 : decode cX3_closeBlock 93 = .ok (.goto 26, 3) := by decide +kernel
theorem dX3_closeBlock_96 : decode cX3_closeBlock 96 = .ok (.aload_n 0, 1) := by decide +kernel
theorem dX3_closeBlock_97 : decode cX3_closeBlock 97 = .ok (.getfield 28, 3) := by decide +kernel
theorem dX3_closeBlock_100 : decode cX3_closeBlock 100 = .ok (.getfield 128, 3) := by decide +kernel
theorem dX3_closeBlock_103 : decode cX3_closeBlock 103 = .ok (.iload_n 1, 1) := by decide +kernel
theorem dX3_closeBlock_104 : decode cX3_closeBlock 104 = .ok (.aload_n 0, 1) := by decide +kernel
theorem dX3_closeBlock_105 : decode cX3_closeBlock 105 = .ok (.getfield 39, 3) := by decide +kernel
theorem dX3_closeBlock_108 : decode cX3_closeBlock 108 = .ok (.aload_n 0, 1) := by decide +kernel
theorem dX3_closeBlock_109 : decode cX3_closeBlock 109 = .ok (.getfield 32, 3) := by decide +kernel
theorem dX3_closeBlock_112 : decode cX3_closeBlock 112 = .ok (.iaload, 1) := by decide +kernel
theorem dX3_closeBlock_113 : decode cX3_closeBlock 113 = .ok (.iastore, 1) := by decide +kernel
theorem dX3_closeBlock_114 : decode cX3_closeBlock 114 = .ok (.aload_n 0, 1) := by decide +kernel
theorem dX3_closeBlock_115 : decode cX3_closeBlock 115 = .ok (.iload_n 1, 1) := by decide +kernel
theorem dX3_closeBlock_116 : decode cX3_closeBlock 116 = .ok (.invokevirtual 131, 3) := by decide +kernel
theorem dX3_closeBlock_119 : decode cX3_closeBlock 119 = .ok (.return_, 1) := by decide +kernel
theorem dX3_finish_0 : decode cX3_finish 0 = .ok (.aload_n 0, 1) := by decide +kernel
theorem dX3_finish_1 : decode cX3_finish 1 = .ok (.getfield 22, 3) := by decide +kernel
theorem dX3_finish_4 : decode cX3_finish 4 = .ok (.ifCond .eq 4, 3) := by decide +kernel
theorem dX3_finish_7 : decode cX3_finish 7 = .ok (.return_, 1) := by decide +kernel
theorem dX3_finish_8 : decode cX3_finish 8 = .ok (.aload_n 0, 1) := by decide +kernel
theorem dX3_finish_9 : decode cX3_finish 9 = .ok (.getfield 46, 3) := by decide +kernel
theorem dX3_finish_12 : decode cX3_finish 12 = .ok (.invokevirtual 97, 3) := by decide +kernel
theorem dX3_finish_15 : decode cX3_finish 15 = .ok (.ifCond .ne 13, 3) := by decide +kernel
theorem dX3_finish_18 : decode cX3_finish 18 = .ok (.aload_n 0, 1) := by decide +kernel
theorem dX3_finish_19 : decode cX3_finish 19 = .ok (.iconst 5, 1) := by decide +kernel
theorem dX3_finish_20 : decode cX3_finish 20 = .ok (.aload_n 0, 1) := by decide +kernel
theorem dX3_finish_21 : decode cX3_finish 21 = .ok (.getfield 15, 3) := by decide +kernel
theorem dX3_finish_24 : decode cX3_finish 24 = .ok (.invokevirtual 101, 3) := by decide +kernel
theorem dX3_finish_27 : decode cX3_finish 27 = .ok (.return_, 1) := by decide +kernel
theorem dX3_finish_28 : decode cX3_finish 28 = .ok (.aload_n 0, 1) := by decide +kernel
theorem dX3_finish_29 : decode cX3_finish 29 = .ok (.getfield 55, 3) := by decide +kernel
theorem dX3_finish_32 : decode cX3_finish 32 = .ok (.aload_n 0, 1) := by decide +kernel
theorem dX3_finish_33 : decode cX3_finish 33 = .ok (.getfield 46, 3) := by decide +kernel
theorem dX3_finish_36 : decode cX3_finish 36 = .ok (.invokevirtual 105, 3) := by decide +kernel
theorem dX3_finish_39 : decode cX3_finish 39 = .ok (.aload_n 0, 1) := by decide +kernel
theorem dX3_finish_40 : decode cX3_finish 40 = .ok (.getfield 46, 3) := by decide +kernel
theorem dX3_finish_43 : decode cX3_finish 43 = .ok (.invokevirtual 109, 3) := by decide +kernel
theorem dX3_finish_46 : decode cX3_finish 46 = .ok (.aload_n 0, 1) := by decide +kernel
theorem dX3_finish_47 : decode cX3_finish 47 = .ok (.getfield 46, 3) := by decide +kernel
theorem dX3_finish_50 : decode cX3_finish 50 = .ok (.invokevirtual 112, 3) := by decide +kernel
theorem dX3_finish_53 : decode cX3_finish 53 = .ok (.ifCond .ne 13, 3) := by decide +kernel
theorem dX3_finish_56 : decode cX3_finish 56 = .ok (.aload_n 0, 1) := by decide +kernel
theorem dX3_finish_57 : decode cX3_finish 57 = .ok (.bipush 6, 2) := by decide +kernel
theorem dX3_finish_59 : decode cX3_finish 59 = .ok (.aload_n 0, 1) := by decide +kernel
theorem dX3_finish_60 : decode cX3_finish 60 = .ok (.getfield 15, 3) := by decide +kernel
theorem dX3_finish_63 : decode cX3_finish 63 = .ok (.invokevirtual 101, 3) := by decide +kernel
theorem dX3_finish_66 : decode cX3_finish 66 = .ok (.return_, 1) := by decide +kernel
theorem dX3_read_0 : decode cX3_read 0 = .ok (.aload_n 0, 1) := by decide +kernel
theorem dX3_read_1 : decode cX3_read 1 = .ok (.aload_n 1, 1) := by decide +kernel
theorem dX3_read_2 : decode cX3_read 2 = .ok (.iload_n 2, 1) := by decide +kernel
theorem dX3_read_3 : decode cX3_read 3 = .ok (.aload_n 3, 1) := by decide +kernel
theorem dX3_read_4 : decode cX3_read 4 = .ok (.invokevirtual 59, 3) := by decide +kernel
theorem dX3_read_7 : decode cX3_read 7 = .ok (.aload_n 0, 1) := by decide +kernel
theorem dX3_read_8 : decode cX3_read 8 = .ok (.invokevirtual 63, 3) := by decide +kernel
theorem dX3_read_11 : decode cX3_read 11 = .ok (.iconst 0, 1) := by decide +kernel
theorem dX3_read_12 : decode cX3_read 12 = .ok (.istore 4, 2) := by decide +kernel
theorem dX3_read_14 : decode cX3_read 14 = .ok (.iload 4, 2) := by decide +kernel
theorem dX3_read_16 : decode cX3_read 16 = .ok (.sipush 500, 3) := by decide +kernel
theorem dX3_read_19 : decode cX3_read 19 = .ok (.if_icmp .gt 86, 3) := by decide +kernel
theorem dX3_read_22 : decode cX3_read 22 = .ok (.aload_n 0, 1) := by decide +kernel
theorem dX3_read_23 : decode cX3_read 23 = .ok (.getfield 22, 3) := by decide +kernel
theorem dX3_read_26 : decode cX3_read 26 = .ok (.ifCond .ne 79, 3) := by decide +kernel
theorem dX3_read_29 : decode cX3_read 29 = .ok (.aload_n 0, 1) := by decide +kernel
theorem dX3_read_30 : decode cX3_read 30 = .ok (.invokevirtual 66, 3) := by decide +kernel
theorem dX3_read_33 : decode cX3_read 33 = .ok (.istore 5, 2) := by decide +kernel
theorem dX3_read_35 : decode cX3_read 35 = .ok (.aload_n 0, 1) := by decide +kernel
theorem dX3_read_36 : decode cX3_read 36 = .ok (.getfield 32, 3) := by decide +kernel
theorem dX3_read_39 : decode cX3_read 39 = .ok (.ifCond .ne 12, 3) := by decide +kernel
theorem dX3_read_42 : decode cX3_read 42 = .ok (.iload 5, 2) := by decide +kernel
theorem dX3_read_44 : decode cX3_read 44 = .ok (.iconst (-1), 1) := by decide +kernel
theorem dX3_read_45 : decode cX3_read 45 = .ok (.if_icmp .ne 6, 3) := by decide +kernel
theorem dX3_read_48 : decode cX3_read 48 = .ok (.goto 57, 3) := by decide +kernel
theorem dX3_read_51 : decode cX3_read 51 = .ok (.aload_n 0, 1) := by decide +kernel
theorem dX3_read_52 : decode cX3_read 52 = .ok (.getfield 32, 3) := by decide +kernel
theorem dX3_read_55 : decode cX3_read 55 = .ok (.ifCond .ne 10, 3) := by decide +kernel
theorem dX3_read_58 : decode cX3_read 58 = .ok (.aload_n 0, 1) := by decide +kernel
theorem dX3_read_59 : decode cX3_read 59 = .ok (.invokevirtual 63, 3) := by decide +kernel
theorem dX3_read_62 : decode cX3_read 62 = .ok (.goto 37, 3) := by decide +kernel
theorem dX3_read_65 : decode cX3_read 65 = .ok (.iload 5, 2) := by decide +kernel
theorem dX3_read_67 : decode cX3_read 67 = .ok (.bipush 125, 2) := by decide +kernel
theorem dX3_read_69 : decode cX3_read 69 = .ok (.if_icmp .ne 10, 3) := by decide +kernel
theorem dX3_read_72 : decode cX3_read 72 = .ok (.aload_n 0, 1) := by decide +kernel
theorem dX3_read_73 : decode cX3_read 73 = .ok (.invokevirtual 70, 3) := by decide +kernel
theorem dX3_read_76 : decode cX3_read 76 = .ok (.goto 23, 3) := by decide +kernel
theorem dX3_read_79 : decode cX3_read 79 = .ok (.iload 5, 2) := by decide +kernel
theorem dX3_read_81 : decode cX3_read 81 = .ok (.bipush 37, 2) := by decide +kernel
theorem dX3_read_83 : decode cX3_read 83 = .ok (.if_icmp .ne 10, 3) := by decide +kernel
theorem dX3_read_86 : decode cX3_read 86 = .ok (.aload_n 0, 1) := by decide +kernel
theorem dX3_read_87 : decode cX3_read 87 = .ok (.invokevirtual 73, 3) := by decide +kernel
theorem dX3_read_90 : decode cX3_read 90 = .ok (.goto 9, 3) := by decide +kernel
theorem dX3_read_93 : decode cX3_read 93 = .ok (.aload_n 0, 1) := by decide +kernel
theorem dX3_read_94 : decode cX3_read 94 = .ok (.iload 5, 2) := by decide +kernel
theorem dX3_read_96 : decode cX3_read 96 = .ok (.invokevirtual 76, 3) := by decide +kernel
theorem dX3_read_99 : decode cX3_read 99 = .ok (.iinc 4 1, 3) := by decide +kernel
theorem dX3_read_102 : decode cX3_read 102 = .ok (.goto (-88), 3) := by decide +kernel
theorem dX3_read_105 : decode cX3_read 105 = .ok (.aload_n 0, 1) := by decide +kernel
theorem dX3_read_106 : decode cX3_read 106 = .ok (.invokevirtual 80, 3) := by decide +kernel
theorem dX3_read_109 : decode cX3_read 109 = .ok (.aload_n 0, 1) := by decide +kernel
theorem dX3_read_110 : decode cX3_read 110 = .ok (.getfield 22, 3) := by decide +kernel
theorem dX3_read_113 : decode cX3_read 113 = .ok (.ireturn, 1) := by decide +kernel
theorem dX3_readProcedure_0 : decode cX3_readProcedure 0 = .ok (.aload_n 0, 1) := by decide +kernel
theorem dX3_readProcedure_1 : decode cX3_readProcedure 1 = .ok (.invokevirtual 66, 3) := by decide +kernel
theorem dX3_readProcedure_4 : decode cX3_readProcedure 4 = .ok (.istore_n 1, 1) := by decide +kernel
theorem dX3_readProcedure_5 : decode cX3_readProcedure 5 = .ok (.iload_n 1, 1) := by decide +kernel
theorem dX3_readProcedure_6 : decode cX3_readProcedure 6 = .ok (.bipush 65, 2) := by decide +kernel
theorem dX3_readProcedure_8 : decode cX3_readProcedure 8 = .ok (.if_icmp .lt 9, 3) := by decide +kernel
theorem dX3_readProcedure_11 : decode cX3_readProcedure 11 = .ok (.iload_n 1, 1) := by decide +kernel
theorem dX3_readProcedure_12 : decode cX3_readProcedure 12 = .ok (.bipush 90, 2) := by decide +kernel
theorem dX3_readProcedure_14 : decode cX3_readProcedure 14 = .ok (.if_icmp .le 15, 3) := by decide +kernel
theorem dX3_readProcedure_17 : decode cX3_readProcedure 17 = .ok (.aload_n 0, 1) := by decide +kernel
theorem dX3_readProcedure_18 : decode cX3_readProcedure 18 = .ok (.iconst 1, 1) := by decide +kernel
theorem dX3_readProcedure_19 : decode cX3_readProcedure 19 = .ok (.aload_n 0, 1) := by decide +kernel
theorem dX3_readProcedure_20 : decode cX3_readProcedure 20 = .ok (.getfield 19, 3) := by decide +kernel
theorem dX3_readProcedure_23 : decode cX3_readProcedure 23 = .ok (.invokevirtual 101, 3) := by decide +kernel
theorem dX3_readProcedure_26 : decode cX3_readProcedure 26 = .ok (.goto 69, 3) := by decide +kernel
theorem dX3_readProcedure_29 : decode cX3_readProcedure 29 = .ok (.aload_n 0, 1) := by decide +kernel
theorem dX3_readProcedure_30 : decode cX3_readProcedure 30 = .ok (.getfield 46, 3) := by decide +kernel
theorem dX3_readProcedure_33 : decode cX3_readProcedure 33 = .ok (.getfield 115, 3) := by decide +kernel
theorem dX3_readProcedure_36 : decode cX3_readProcedure 36 = .ok (.iconst 5, 1) := by decide +kernel
theorem dX3_readProcedure_37 : decode cX3_readProcedure 37 = .ok (.if_icmp .ge 17, 3) := by decide +kernel
theorem dX3_readProcedure_40 : decode cX3_readProcedure 40 = .ok (.iload_n 1, 1) := by decide +kernel
theorem dX3_readProcedure_41 : decode cX3_readProcedure 41 = .ok (.bipush 65, 2) := by decide +kernel
theorem dX3_readProcedure_43 : decode cX3_readProcedure 43 = .ok (.aload_n 0, 1) := by decide +kernel
theorem dX3_readProcedure_44 : decode cX3_readProcedure 44 = .ok (.getfield 46, 3) := by decide +kernel
theorem dX3_readProcedure_47 : decode cX3_readProcedure 47 = .ok (.getfield 115, 3) := by decide +kernel
theorem dX3_readProcedure_50 : decode cX3_readProcedure 50 = .ok (.iadd, 1) := by decide +kernel
theorem dX3_readProcedure_51 : decode cX3_readProcedure 51 = .ok (.if_icmp .eq 15, 3) := by decide +kernel
theorem dX3_readProcedure_54 : decode cX3_readProcedure 54 = .ok (.aload_n 0, 1) := by decide +kernel
theorem dX3_readProcedure_55 : decode cX3_readProcedure 55 = .ok (.iconst 3, 1) := by decide +kernel
theorem dX3_readProcedure_56 : decode cX3_readProcedure 56 = .ok (.aload_n 0, 1) := by decide +kernel
theorem dX3_readProcedure_57 : decode cX3_readProcedure 57 = .ok (.getfield 19, 3) := by decide +kernel
theorem dX3_readProcedure_60 : decode cX3_readProcedure 60 = .ok (.invokevirtual 101, 3) := by decide +kernel
theorem dX3_readProcedure_63 : decode cX3_readProcedure 63 = .ok (.goto 32, 3) := by decide +kernel
theorem dX3_readProcedure_66 : decode cX3_readProcedure 66 = .ok (.aload_n 0, 1) := by decide +kernel
theorem dX3_readProcedure_67 : decode cX3_readProcedure 67 = .ok (.dup, 1) := by decide +kernel
theorem dX3_readProcedure_68 : decode cX3_readProcedure 68 = .ok (.getfield 19, 3) := by decide +kernel
theorem dX3_readProcedure_71 : decode cX3_readProcedure 71 = .ok (.iconst 1, 1) := by decide +kernel
theorem dX3_readProcedure_72 : decode cX3_readProcedure 72 = .ok (.iadd, 1) := by decide +kernel
theorem dX3_readProcedure_73 : decode cX3_readProcedure 73 = .ok (.putfield 19, 3) := by decide +kernel
theorem dX3_readProcedure_76 : decode cX3_readProcedure 76 = .ok (.aload_n 0, 1) := by decide +kernel
theorem dX3_readProcedure_77 : decode cX3_readProcedure 77 = .ok (.getfield 46, 3) := by decide +kernel
theorem dX3_readProcedure_80 : decode cX3_readProcedure 80 = .ok (.dup, 1) := by decide +kernel
theorem dX3_readProcedure_81 : decode cX3_readProcedure 81 = .ok (.getfield 115, 3) := by decide +kernel
theorem dX3_readProcedure_84 : decode cX3_readProcedure 84 = .ok (.iconst 1, 1) := by decide +kernel
theorem dX3_readProcedure_85 : decode cX3_readProcedure 85 = .ok (.iadd, 1) := by decide +kernel
theorem dX3_readProcedure_86 : decode cX3_readProcedure 86 = .ok (.putfield 115, 3) := by decide +kernel
theorem dX3_readProcedure_89 : decode cX3_readProcedure 89 = .ok (.aload_n 0, 1) := by decide +kernel
theorem dX3_readProcedure_90 : decode cX3_readProcedure 90 = .ok (.iconst (-1), 1) := by decide +kernel
theorem dX3_readProcedure_91 : decode cX3_readProcedure 91 = .ok (.iconst 0, 1) := by decide +kernel
theorem dX3_readProcedure_92 : decode cX3_readProcedure 92 = .ok (.invokevirtual 118, 3) := by decide +kernel
theorem dX3_readProcedure_95 : decode cX3_readProcedure 95 = .ok (.return_, 1) := by decide +kernel
theorem dX3_start_0 : decode cX3_start 0 = .ok (.aload_n 0, 1) := by decide +kernel
theorem dX3_start_1 : decode cX3_start 1 = .ok (.aload_n 1, 1) := by decide +kernel
theorem dX3_start_2 : decode cX3_start 2 = .ok (.putfield 9, 3) := by decide +kernel
theorem dX3_start_5 : decode cX3_start 5 = .ok (.aload_n 0, 1) := by decide +kernel
theorem dX3_start_6 : decode cX3_start 6 = .ok (.iload_n 2, 1) := by decide +kernel
theorem dX3_start_7 : decode cX3_start 7 = .ok (.aload_n 1, 1) := by decide +kernel
theorem dX3_start_8 : decode cX3_start 8 = .ok (.arraylength, 1) := by decide +kernel
theorem dX3_start_9 : decode cX3_start 9 = .ok (.invokestatic 83, 3) := by decide +kernel
theorem dX3_start_12 : decode cX3_start 12 = .ok (.putfield 15, 3) := by decide +kernel
theorem dX3_start_15 : decode cX3_start 15 = .ok (.aload_n 0, 1) := by decide +kernel
theorem dX3_start_16 : decode cX3_start 16 = .ok (.iconst 0, 1) := by decide +kernel
theorem dX3_start_17 : decode cX3_start 17 = .ok (.putfield 19, 3) := by decide +kernel
theorem dX3_start_20 : decode cX3_start 20 = .ok (.aload_n 0, 1) := by decide +kernel
theorem dX3_start_21 : decode cX3_start 21 = .ok (.iconst 0, 1) := by decide +kernel
theorem dX3_start_22 : decode cX3_start 22 = .ok (.putfield 22, 3) := by decide +kernel
theorem dX3_start_25 : decode cX3_start 25 = .ok (.aload_n 0, 1) := by decide +kernel
theorem dX3_start_26 : decode cX3_start 26 = .ok (.aload_n 3, 1) := by decide +kernel
theorem dX3_start_27 : decode cX3_start 27 = .ok (.putfield 46, 3) := by decide +kernel
theorem dX3_start_30 : decode cX3_start 30 = .ok (.aload_n 0, 1) := by decide +kernel
theorem dX3_start_31 : decode cX3_start 31 = .ok (.getfield 46, 3) := by decide +kernel
theorem dX3_start_34 : decode cX3_start 34 = .ok (.invokevirtual 89, 3) := by decide +kernel
theorem dX3_start_37 : decode cX3_start 37 = .ok (.aload_n 0, 1) := by decide +kernel
theorem dX3_start_38 : decode cX3_start 38 = .ok (.getfield 28, 3) := by decide +kernel
theorem dX3_start_41 : decode cX3_start 41 = .ok (.iconst 0, 1) := by decide +kernel
theorem dX3_start_42 : decode cX3_start 42 = .ok (.putfield 94, 3) := by decide +kernel
theorem dX3_start_45 : decode cX3_start 45 = .ok (.aload_n 0, 1) := by decide +kernel
theorem dX3_start_46 : decode cX3_start 46 = .ok (.iconst 0, 1) := by decide +kernel
theorem dX3_start_47 : decode cX3_start 47 = .ok (.putfield 32, 3) := by decide +kernel
theorem dX3_start_50 : decode cX3_start 50 = .ok (.return_, 1) := by decide +kernel
theorem dX7_program_0 : decode cX7_program 0 = .ok (.aload_n 0, 1) := by decide +kernel
theorem dX7_program_1 : decode cX7_program 1 = .ok (.getfield 13, 3) := by decide +kernel
theorem dX7_program_4 : decode cX7_program 4 = .ok (.istore_n 1, 1) := by decide +kernel
theorem dX7_program_5 : decode cX7_program 5 = .ok (.aload_n 0, 1) := by decide +kernel
theorem dX7_program_6 : decode cX7_program 6 = .ok (.iconst 0, 1) := by decide +kernel
theorem dX7_program_7 : decode cX7_program 7 = .ok (.putfield 13, 3) := by decide +kernel
theorem dX7_program_10 : decode cX7_program 10 = .ok (.aload_n 0, 1) := by decide +kernel
theorem dX7_program_11 : decode cX7_program 11 = .ok (.aload_n 0, 1) := by decide +kernel
theorem dX7_program_12 : decode cX7_program 12 = .ok (.getfield 35, 3) := by decide +kernel
theorem dX7_program_15 : decode cX7_program 15 = .ok (.aload_n 0, 1) := by decide +kernel
theorem dX7_program_16 : decode cX7_program 16 = .ok (.getfield 9, 3) := by decide +kernel
theorem dX7_program_19 : decode cX7_program 19 = .ok (.iload_n 1, 1) := by decide +kernel
theorem dX7_program_20 : decode cX7_program 20 = .ok (.aload_n 0, 1) := by decide +kernel
theorem dX7_program_21 : decode cX7_program 21 = .ok (.getfield 27, 3) := by decide +kernel
theorem dX7_program_24 : decode cX7_program 24 = .ok (.invokevirtual 57, 3) := by decide +kernel
theorem dX7_program_27 : decode cX7_program 27 = .ok (.putfield 17, 3) := by decide +kernel
theorem dX7_program_30 : decode cX7_program 30 = .ok (.aload_n 0, 1) := by decide +kernel
theorem dX7_program_31 : decode cX7_program 31 = .ok (.getfield 17, 3) := by decide +kernel
theorem dX7_program_34 : decode cX7_program 34 = .ok (.ifCond .eq 6, 3) := by decide +kernel
theorem dX7_program_37 : decode cX7_program 37 = .ok (.bipush (-2), 2) := by decide +kernel
theorem dX7_program_39 : decode cX7_program 39 = .ok (.ireturn, 1) := by decide +kernel
theorem dX7_program_40 : decode cX7_program 40 = .ok (.aload_n 0, 1) := by decide +kernel
theorem dX7_program_41 : decode cX7_program 41 = .ok (.getfield 23, 3) := by decide +kernel
theorem dX7_program_44 : decode cX7_program 44 = .ok (.astore_n 2, 1) := by decide +kernel
theorem dX7_program_45 : decode cX7_program 45 = .ok (.aload_n 0, 1) := by decide +kernel
theorem dX7_program_46 : decode cX7_program 46 = .ok (.aload_n 0, 1) := by decide +kernel
theorem dX7_program_47 : decode cX7_program 47 = .ok (.getfield 27, 3) := by decide +kernel
theorem dX7_program_50 : decode cX7_program 50 = .ok (.putfield 23, 3) := by decide +kernel
theorem dX7_program_53 : decode cX7_program 53 = .ok (.aload_n 0, 1) := by decide +kernel
theorem dX7_program_54 : decode cX7_program 54 = .ok (.aload_n 2, 1) := by decide +kernel
theorem dX7_program_55 : decode cX7_program 55 = .ok (.putfield 27, 3) := by decide +kernel
theorem dX7_program_58 : decode cX7_program 58 = .ok (.aload_n 0, 1) := by decide +kernel
theorem dX7_program_59 : decode cX7_program 59 = .ok (.getfield 42, 3) := by decide +kernel
theorem dX7_program_62 : decode cX7_program 62 = .ok (.invokevirtual 61, 3) := by decide +kernel
theorem dX7_program_65 : decode cX7_program 65 = .ok (.aload_n 0, 1) := by decide +kernel
theorem dX7_program_66 : decode cX7_program 66 = .ok (.getfield 49, 3) := by decide +kernel
theorem dX7_program_69 : decode cX7_program 69 = .ok (.invokevirtual 64, 3) := by decide +kernel
theorem dX7_program_72 : decode cX7_program 72 = .ok (.aload_n 0, 1) := by decide +kernel
theorem dX7_program_73 : decode cX7_program 73 = .ok (.getfield 23, 3) := by decide +kernel
theorem dX7_program_76 : decode cX7_program 76 = .ok (.getfield 65, 3) := by decide +kernel
theorem dX7_program_79 : decode cX7_program 79 = .ok (.ireturn, 1) := by decide +kernel
