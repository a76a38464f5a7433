/-- what the class's reader keeps of P -/
def RQ (P Q : PP) : Prop := Q.1 = P.1 ∧ Q.2.1 = P.2.1 ∧ Q.2.2.2 = P.2.2.2
theorem RQ.rfl (P : PP) : RQ P P := ⟨_root_.rfl, _root_.rfl, _root_.rfl⟩
theorem RQ.trans {P Q R : PP} (h : RQ P Q) (g : RQ Q R) : RQ P R := ⟨g.1.trans h.1, g.2.1.trans h.2.1, g.2.2.trans h.2.2⟩
theorem Iv.putT {P : PP} {h : HP} (hi : Iv P h) : Iv P (hR h 34 0 (.ref 1)) := by
  obtain ⟨q1, q2, q3, q4, q5, q6, q7, q8, q9, q10, q12⟩ := hi
  refine ⟨q1, q2, fun q hq => ?_, fun q hq => ?_, fun _ => ?_, q6, q7, q8, q9, q10, q12⟩
  · have e : ∀ q ∈ rfs, ¬ (q.1 = 34 ∧ q.2.1 = 0) := by decide
    show (if q.1 = 34 ∧ q.2.1 = 0 then _ else h.2.2.2 q.1 q.2.1) = _
    rw [if_neg (e q hq)]; exact q3 q hq
  · have e : ∀ q ∈ rcs, ¬ (q.1 = 34 ∧ q.2 = 0) := by decide
    show (if q.1 = 34 ∧ q.2 = 0 then Value.ref 1 else h.2.2.2 q.1 q.2) = _ ∨ (if q.1 = 34 ∧ q.2 = 0 then Value.ref 1 else h.2.2.2 q.1 q.2) = _
    rw [if_neg (e q hq)]; exact q4 q hq
  · rfl
theorem Iv.putN {P : PP} {h : HP} {x : Int32} {a : Int} (hi : Iv P h) (ex : TI x a) (h1 : 0 ≤ a) (h2 : a ≤ 500) (ht : h.2.2.2 34 0 = .ref 1) : Iv P (hI h 34 1 x) := by
  obtain ⟨q1, q2, q3, q4, q5, q6, q7, q8, q9, q10, q12⟩ := hi
  refine ⟨q1, fun c' j' => ?_, q3, q4, fun _ => ht, fun c' hc' j' => ?_, q7, q8, fun c' hc' j' => ?_, q10, fun c' j' hc' => ?_⟩
  · show (rg c' j').1 ≤ (if c' = 34 ∧ j' = 1 then x else h.2.1 c' j').toInt ∧ (if c' = 34 ∧ j' = 1 then x else h.2.1 c' j').toInt ≤ (rg c' j').2
    by_cases e : c' = 34 ∧ j' = 1
    · rw [if_pos e, e.1, e.2, show x.toInt = a from ex]; exact ⟨h1, h2⟩
    · rw [if_neg e]; exact q2 c' j'
  · show (if c' + 2 = 34 ∧ j' = 1 then x else h.2.1 (c' + 2) j').toInt = 1 → 0 ≤ (if c' + 7 = 34 ∧ j' = 1 then x else h.2.1 (c' + 7) j').toInt
    rw [if_neg (by omega), if_neg (by omega)]
    exact q6 c' hc' j'
  · show (if c' = 34 ∧ j' = 1 then x else h.2.1 c' j') = _
    rw [if_neg (by omega)]; exact q9 c' hc' j'
  · show (if c' = 34 ∧ j' = 1 then x else h.2.1 c' j') = _
    rw [if_neg (by unfold fzn at hc'; omega)]; exact q12 c' j' hc'
theorem Iv.putX {P : PP} {h : HP} {k : Nat} (hi : Iv P h) (hk : k = 2 ∨ k = 18) : Iv (P.1, P.2.1, P.2.2.1, k, P.2.2.2.2) (hR h 0 3 (.ref k)) := by
  obtain ⟨q1, q2, q3, q4, q5, q6, q7, q8, q9, q10, q12⟩ := hi
  refine ⟨q1, q2, fun q hq => ?_, fun q hq => ?_, q5, q6, q7, q8, q9, rfl, q12⟩
  · have e : ∀ q ∈ rfs, ¬ (q.1 = 0 ∧ q.2.1 = 3) := by decide
    show (if q.1 = 0 ∧ q.2.1 = 3 then _ else h.2.2.2 q.1 q.2.1) = _
    rw [if_neg (e q hq)]; exact q3 q hq
  · show (if q.1 = 0 ∧ q.2 = 3 then Value.ref k else h.2.2.2 q.1 q.2) = _ ∨ (if q.1 = 0 ∧ q.2 = 3 then Value.ref k else h.2.2.2 q.1 q.2) = _
    by_cases e2 : q.1 = 0 ∧ q.2 = 3
    · rw [if_pos e2]; rcases hk with rfl | rfl
      · exact Or.inl rfl
      · exact Or.inr rfl
    · rw [if_neg e2]; exact q4 q hq
section GR
variable {l : Launch} {own : String} {cc : ByteArray} {nL : Nat} {R : Room} {nm : String} {rt : Option FieldType} {n0 mc ms : Nat} {Xf : Nat → State → Prop} {Qf : Option Value → HP → Prop} {sl pc : Nat} {lv : List (Nat × Value)} {st : List Value} {h : HP} {P : PP}
theorem gi_putT {idx : Nat} (hv : Iv P h) (hf : FP own nm idx 3 0) (hd : decode cc pc = .ok (.putfield idx, 3)) (k : ∀ h' : HP, Iv P h' → h' = hR h 34 0 (.ref 1) → Go l own cc nL R nm rt n0 mc ms Xf Qf sl (pc + 3) lv st h') : Go l own cc nL R nm rt n0 mc ms Xf Qf sl pc lv (.ref 1 :: .ref 34 :: st) h :=
  go_putR hf (hv.sh rfl) (Nat.le_of_ble_eq_true rfl) rfl (fun _ => rfl) (fun _ => rfl) hd (k _ hv.putT rfl)
theorem gi_putN {idx : Nat} {x : Int32} {a : Int} (hv : Iv P h) (ex : TI x a) (hf : FP own nm idx 3 1) (h1 : 0 ≤ a) (h2 : a ≤ 500) (ht : h.2.2.2 34 0 = .ref 1) (hd : decode cc pc = .ok (.putfield idx, 3)) (k : ∀ h' : HP, Iv P h' → h' = hI h 34 1 x → Go l own cc nL R nm rt n0 mc ms Xf Qf sl (pc + 3) lv st h') : Go l own cc nL R nm rt n0 mc ms Xf Qf sl pc lv (.int x :: .ref 34 :: st) h :=
  go_putI hf (hv.sh rfl) (Nat.le_of_ble_eq_true rfl) rfl (fun _ => rfl) (fun _ => rfl) hd (k _ (hv.putN ex h1 h2 ht) rfl)
theorem gi_putX {idx q : Nat} (hv : Iv P h) (hq : q = 2 ∨ q = 18) (hf : FP own nm idx 7 3) (hd : decode cc pc = .ok (.putfield idx, 3)) (k : ∀ h' : HP, Iv (P.1, P.2.1, P.2.2.1, q, P.2.2.2.2) h' → h' = hR h 0 3 (.ref q) → Go l own cc nL R nm rt n0 mc ms Xf Qf sl (pc + 3) lv st h') : Go l own cc nL R nm rt n0 mc ms Xf Qf sl pc lv (.ref q :: .ref 0 :: st) h :=
  go_putR hf (hv.sh rfl) (Nat.le_of_ble_eq_true rfl) rfl (fun _ => rfl) (fun _ => rfl) hd (k _ (hv.putX hq) rfl)
theorem gf_min {x y : Int32} {a b : Int} {idx : Nat} (ex : TI x a) (ey : TI y b) (hL : Cond.methodLink own idx Lib.Math.min.name ∈ gw) (hfr : 1 ≤ R.frames) (hlo : 21 ≤ R.locals) (hst : (st.map fun v => v.category).sum ≤ 8) (hcs : h.1.length - n0 ≤ R.cells) (hsl : sl ≤ R.slots) (hd : decode cc pc = .ok (.invokestatic idx, 3)) (k : ∀ v : Int32, (a ≤ b → v.toInt = a) → (b < a → v.toInt = b) → Go l own cc nL R nm rt n0 mc ms Xf Qf sl (pc + 3) lv (.int v :: st) h) : Go l own cc nL R nm rt n0 mc ms Xf Qf sl pc lv (.int y :: .int x :: st) h :=
  go_mmin hL hfr hlo hst hcs hsl hd (k _ (fun q => by rw [if_neg (fun w => by have := (ti_lt ey ex).mp w; omega)]; exact ex) (fun q => by rw [if_pos ((ti_lt ey ex).mpr q)]; exact ey))
end GR
theorem dX3_closeBlock_0 : decode cX3_closeBlock 0 = .ok (.aload_n 0, 1) := by decide +kernel
theorem dX3_closeBlock_1 : decode cX3_closeBlock 1 = .ok (.dup, 1) := by decide +kernel
theorem dX3_closeBlock_2 : decode cX3_closeBlock 2 = .ok (.getfield 19, 3) := by decide +kernel
theorem dX3_closeBlock_5 : decode cX3_closeBlock 5 = .ok (.iconst 1, 1) := by decide +kernel
theorem dX3_closeBlock_6 : decode cX3_closeBlock 6 = .ok (.iadd, 1) := by decide +kernel
theorem dX3_closeBlock_7 : decode cX3_closeBlock 7 = .ok (.putfield 19, 3) := by decide +kernel
theorem dX3_closeBlock_10 : decode cX3_closeBlock 10 = .ok (.aload_n 0, 1) := by decide +kernel
theorem dX3_closeBlock_11 : decode cX3_closeBlock 11 = .ok (.dup, 1) := by decide +kernel
theorem dX3_closeBlock_12 : decode cX3_closeBlock 12 = .ok (.getfield 32, 3) := by decide +kernel
theorem dX3_closeBlock_15 : decode cX3_closeBlock 15 = .ok (.iconst 1, 1) := by decide +kernel
theorem dX3_closeBlock_16 : decode cX3_closeBlock 16 = .ok (.isub, 1) := by decide +kernel
theorem dX3_closeBlock_17 : decode cX3_closeBlock 17 = .ok (.putfield 32, 3) := by decide +kernel
theorem dX3_closeBlock_20 : decode cX3_closeBlock 20 = .ok (.aload_n 0, 1) := by decide +kernel
theorem dX3_closeBlock_21 : decode cX3_closeBlock 21 = .ok (.getfield 35, 3) := by decide +kernel
theorem dX3_closeBlock_24 : decode cX3_closeBlock 24 = .ok (.aload_n 0, 1) := by decide +kernel
theorem dX3_closeBlock_25 : decode cX3_closeBlock 25 = .ok (.getfield 32, 3) := by decide +kernel
theorem dX3_closeBlock_28 : decode cX3_closeBlock 28 = .ok (.iaload, 1) := by decide +kernel
theorem dX3_closeBlock_29 : decode cX3_closeBlock 29 = .ok (.istore_n 1, 1) := by decide +kernel
theorem dX3_closeBlock_30 : decode cX3_closeBlock 30 = .ok (.iload_n 1, 1) := by decide +kernel
theorem dX3_closeBlock_31 : decode cX3_closeBlock 31 = .ok (.ifCond .ge 32, 3) := by decide +kernel
theorem dX3_closeBlock_34 : decode cX3_closeBlock 34 = .ok (.aload_n 0, 1) := by decide +kernel
theorem dX3_closeBlock_35 : decode cX3_closeBlock 35 = .ok (.getfield 28, 3) := by decide +kernel
theorem dX3_closeBlock_38 : decode cX3_closeBlock 38 = .ok (.getfield 122, 3) := by decide +kernel
theorem dX3_closeBlock_41 : decode cX3_closeBlock 41 = .ok (.aload_n 0, 1) := by decide +kernel
theorem dX3_closeBlock_42 : decode cX3_closeBlock 42 = .ok (.getfield 46, 3) := by decide +kernel
theorem dX3_closeBlock_45 : decode cX3_closeBlock 45 = .ok (.getfield 115, 3) := by decide +kernel
theorem dX3_closeBlock_48 : decode cX3_closeBlock 48 = .ok (.iconst 1, 1) := by decide +kernel
theorem dX3_closeBlock_49 : decode cX3_closeBlock 49 = .ok (.isub, 1) := by decide +kernel
theorem dX3_closeBlock_50 : decode cX3_closeBlock 50 = .ok (.aload_n 0, 1) := by decide +kernel
theorem dX3_closeBlock_51 : decode cX3_closeBlock 51 = .ok (.getfield 39, 3) := by decide +kernel
theorem dX3_closeBlock_54 : decode cX3_closeBlock 54 = .ok (.aload_n 0, 1) := by decide +kernel
theorem dX3_closeBlock_55 : decode cX3_closeBlock 55 = .ok (.getfield 32, 3) := by decide +kernel
theorem dX3_closeBlock_58 : decode cX3_closeBlock 58 = .ok (.iaload, 1) := by decide +kernel
theorem dX3_closeBlock_59 : decode cX3_closeBlock 59 = .ok (.iastore, 1) := by decide +kernel
theorem dX3_closeBlock_60 : decode cX3_closeBlock 60 = .ok (.goto 59, 3) := by decide +kernel
theorem dX3_closeBlock_63 : decode cX3_closeBlock 63 = .ok (.aload_n 0, 1) := by decide +kernel
theorem dX3_closeBlock_64 : decode cX3_closeBlock 64 = .ok (.getfield 42, 3) := by decide +kernel
theorem dX3_closeBlock_67 : decode cX3_closeBlock 67 = .ok (.aload_n 0, 1) := by decide +kernel
theorem dX3_closeBlock_68 : decode cX3_closeBlock 68 = .ok (.getfield 32, 3) := by decide +kernel
theorem dX3_closeBlock_71 : decode cX3_closeBlock 71 = .ok (.baload, 1) := by decide +kernel
theorem dX3_closeBlock_72 : decode cX3_closeBlock 72 = .ok (.ifCond .eq 24, 3) := by decide +kernel
theorem dX3_closeBlock_75 : decode cX3_closeBlock 75 = .ok (.aload_n 0, 1) := by decide +kernel
theorem dX3_closeBlock_76 : decode cX3_closeBlock 76 = .ok (.getfield 28, 3) := by decide +kernel
theorem dX3_closeBlock_79 : decode cX3_closeBlock 79 = .ok (.getfield 125, 3) := by decide +kernel
theorem dX3_closeBlock_82 : decode cX3_closeBlock 82 = .ok (.iload_n 1, 1) := by decide +kernel
theorem dX3_closeBlock_83 : decode cX3_closeBlock 83 = .ok (.aload_n 0, 1) := by decide +kernel
theorem dX3_closeBlock_84 : decode cX3_closeBlock 84 = .ok (.getfield 39, 3) := by decide +kernel
theorem dX3_closeBlock_87 : decode cX3_closeBlock 87 = .ok (.aload_n 0, 1) := by decide +kernel
theorem dX3_closeBlock_88 : decode cX3_closeBlock 88 = .ok (.getfield 32, 3) := by decide +kernel
theorem dX3_closeBlock_91 : decode cX3_closeBlock 91 = .ok (.iaload, 1) := by decide +kernel
theorem dX3_closeBlock_92 : decode cX3_closeBlock 92 = .ok (.iastore, 1) := by decide +kernel
theorem dX3_closeBlock_93 : decode cX3_closeBlock 93 = .ok (.goto 26, 3) := by decide +kernel
theorem dX3_closeBlock_96 : decode cX3_closeBlock 96 = .ok (.aload_n 0, 1) := by decide +kernel
theorem dX3_closeBlock_97 : decode cX3_closeBlock 97 = .ok (.getfield 28, 3) := by decide +kernel
theorem dX3_closeBlock_100 : decode cX3_closeBlock 100 = .ok (.getfield 128, 3) := by decide +kernel
theorem dX3_closeBlock_103 : decode cX3_closeBlock 103 = .ok (.iload_n 1, 1) := by decide +kernel
theorem dX3_closeBlock_104 : decode cX3_closeBlock 104 = .ok (.aload_n 0, 1) := by decide +kernel
theorem dX3_closeBlock_105 : decode cX3_closeBlock 105 = .ok (.getfield 39, 3) := by decide +kernel
theorem dX3_closeBlock_108 : decode cX3_closeBlock 108 = .ok (.aload_n 0, 1) := by decide +kernel
theorem dX3_closeBlock_109 : decode cX3_closeBlock 109 = .ok (.getfield 32, 3) := by decide +kernel
theorem dX3_closeBlock_112 : decode cX3_closeBlock 112 = .ok (.iaload, 1) := by decide +kernel
theorem dX3_closeBlock_113 : decode cX3_closeBlock 113 = .ok (.iastore, 1) := by decide +kernel
theorem dX3_closeBlock_114 : decode cX3_closeBlock 114 = .ok (.aload_n 0, 1) := by decide +kernel
theorem dX3_closeBlock_115 : decode cX3_closeBlock 115 = .ok (.iload_n 1, 1) := by decide +kernel
theorem dX3_closeBlock_116 : decode cX3_closeBlock 116 = .ok (.invokevirtual 131, 3) := by decide +kernel
theorem dX3_closeBlock_119 : decode cX3_closeBlock 119 = .ok (.return_, 1) := by decide +kernel
theorem dX3_finish_0 : decode cX3_finish 0 = .ok (.aload_n 0, 1) := by decide +kernel
theorem dX3_finish_1 : decode cX3_finish 1 = .ok (.getfield 22, 3) := by decide +kernel
theorem dX3_finish_4 : decode cX3_finish 4 = .ok (.ifCond .eq 4, 3) := by decide +kernel
theorem dX3_finish_7 : decode cX3_finish 7 = .ok (.return_, 1) := by decide +kernel
theorem dX3_finish_8 : decode cX3_finish 8 = .ok (.aload_n 0, 1) := by decide +kernel
theorem dX3_finish_9 : decode cX3_finish 9 = .ok (.getfield 46, 3) := by decide +kernel
theorem dX3_finish_12 : decode cX3_finish 12 = .ok (.invokevirtual 97, 3) := by decide +kernel
theorem dX3_finish_15 : decode cX3_finish 15 = .ok (.ifCond .ne 13, 3) := by decide +kernel
theorem dX3_finish_18 : decode cX3_finish 18 = .ok (.aload_n 0, 1) := by decide +kernel
theorem dX3_finish_19 : decode cX3_finish 19 = .ok (.iconst 5, 1) := by decide +kernel
theorem dX3_finish_20 : decode cX3_finish 20 = .ok (.aload_n 0, 1) := by decide +kernel
theorem dX3_finish_21 : decode cX3_finish 21 = .ok (.getfield 15, 3) := by decide +kernel
theorem dX3_finish_24 : decode cX3_finish 24 = .ok (.invokevirtual 101, 3) := by decide +kernel
theorem dX3_finish_27 : decode cX3_finish 27 = .ok (.return_, 1) := by decide +kernel
theorem dX3_finish_28 : decode cX3_finish 28 = .ok (.aload_n 0, 1) := by decide +kernel
theorem dX3_finish_29 : decode cX3_finish 29 = .ok (.getfield 55, 3) := by decide +kernel
theorem dX3_finish_32 : decode cX3_finish 32 = .ok (.aload_n 0, 1) := by decide +kernel
theorem dX3_finish_33 : decode cX3_finish 33 = .ok (.getfield 46, 3) := by decide +kernel
theorem dX3_finish_36 : decode cX3_finish 36 = .ok (.invokevirtual 105, 3) := by decide +kernel
theorem dX3_finish_39 : decode cX3_finish 39 = .ok (.aload_n 0, 1) := by decide +kernel
theorem dX3_finish_40 : decode cX3_finish 40 = .ok (.getfield 46, 3) := by decide +kernel
theorem dX3_finish_43 : decode cX3_finish 43 = .ok (.invokevirtual 109, 3) := by decide +kernel
theorem dX3_finish_46 : decode cX3_finish 46 = .ok (.aload_n 0, 1) := by decide +kernel
theorem dX3_finish_47 : decode cX3_finish 47 = .ok (.getfield 46, 3) := by decide +kernel
theorem dX3_finish_50 : decode cX3_finish 50 = .ok (.invokevirtual 112, 3) := by decide +kernel
theorem dX3_finish_53 : decode cX3_finish 53 = .ok (.ifCond .ne 13, 3) := by decide +kernel
theorem dX3_finish_56 : decode cX3_finish 56 = .ok (.aload_n 0, 1) := by decide +kernel
theorem dX3_finish_57 : decode cX3_finish 57 = .ok (.bipush 6, 2) := by decide +kernel
theorem dX3_finish_59 : decode cX3_finish 59 = .ok (.aload_n 0, 1) := by decide +kernel
theorem dX3_finish_60 : decode cX3_finish 60 = .ok (.getfield 15, 3) := by decide +kernel
theorem dX3_finish_63 : decode cX3_finish 63 = .ok (.invokevirtual 101, 3) := by decide +kernel
theorem dX3_finish_66 : decode cX3_finish 66 = .ok (.return_, 1) := by decide +kernel
theorem dX3_read_0 : decode cX3_read 0 = .ok (.aload_n 0, 1) := by decide +kernel
theorem dX3_read_1 : decode cX3_read 1 = .ok (.aload_n 1, 1) := by decide +kernel
theorem dX3_read_2 : decode cX3_read 2 = .ok (.iload_n 2, 1) := by decide +kernel
theorem dX3_read_3 : decode cX3_read 3 = .ok (.aload_n 3, 1) := by decide +kernel
theorem dX3_read_4 : decode cX3_read 4 = .ok (.invokevirtual 59, 3) := by decide +kernel
theorem dX3_read_7 : decode cX3_read 7 = .ok (.aload_n 0, 1) := by decide +kernel
theorem dX3_read_8 : decode cX3_read 8 = .ok (.invokevirtual 63, 3) := by decide +kernel
theorem dX3_read_11 : decode cX3_read 11 = .ok (.iconst 0, 1) := by decide +kernel
theorem dX3_read_12 : decode cX3_read 12 = .ok (.istore 4, 2) := by decide +kernel
theorem dX3_read_14 : decode cX3_read 14 = .ok (.iload 4, 2) := by decide +kernel
theorem dX3_read_16 : decode cX3_read 16 = .ok (.sipush 500, 3) := by decide +kernel
theorem dX3_read_19 : decode cX3_read 19 = .ok (.if_icmp .gt 86, 3) := by decide +kernel
theorem dX3_read_22 : decode cX3_read 22 = .ok (.aload_n 0, 1) := by decide +kernel
theorem dX3_read_23 : decode cX3_read 23 = .ok (.getfield 22, 3) := by decide +kernel
theorem dX3_read_26 : decode cX3_read 26 = .ok (.ifCond .ne 79, 3) := by decide +kernel
theorem dX3_read_29 : decode cX3_read 29 = .ok (.aload_n 0, 1) := by decide +kernel
theorem dX3_read_30 : decode cX3_read 30 = .ok (.invokevirtual 66, 3) := by decide +kernel
theorem dX3_read_33 : decode cX3_read 33 = .ok (.istore 5, 2) := by decide +kernel
theorem dX3_read_35 : decode cX3_read 35 = .ok (.aload_n 0, 1) := by decide +kernel
theorem dX3_read_36 : decode cX3_read 36 = .ok (.getfield 32, 3) := by decide +kernel
theorem dX3_read_39 : decode cX3_read 39 = .ok (.ifCond .ne 12, 3) := by decide +kernel
theorem dX3_read_42 : decode cX3_read 42 = .ok (.iload 5, 2) := by decide +kernel
theorem dX3_read_44 : decode cX3_read 44 = .ok (.iconst (-1), 1) := by decide +kernel
theorem dX3_read_45 : decode cX3_read 45 = .ok (.if_icmp .ne 6, 3) := by decide +kernel
theorem dX3_read_48 : decode cX3_read 48 = .ok (.goto 57, 3) := by decide +kernel
theorem dX3_read_51 : decode cX3_read 51 = .ok (.aload_n 0, 1) := by decide +kernel
theorem dX3_read_52 : decode cX3_read 52 = .ok (.getfield 32, 3) := by decide +kernel
theorem dX3_read_55 : decode cX3_read 55 = .ok (.ifCond .ne 10, 3) := by decide +kernel
theorem dX3_read_58 : decode cX3_read 58 = .ok (.aload_n 0, 1) := by decide +kernel
theorem dX3_read_59 : decode cX3_read 59 = .ok (.invokevirtual 63, 3) := by decide +kernel
theorem dX3_read_62 : decode cX3_read 62 = .ok (.goto 37, 3) := by decide +kernel
theorem dX3_read_65 : decode cX3_read 65 = .ok (.iload 5, 2) := by decide +kernel
theorem dX3_read_67 : decode cX3_read 67 = .ok (.bipush 125, 2) := by decide +kernel
theorem dX3_read_69 : decode cX3_read 69 = .ok (.if_icmp .ne 10, 3) := by decide +kernel
theorem dX3_read_72 : decode cX3_read 72 = .ok (.aload_n 0, 1) := by decide +kernel
theorem dX3_read_73 : decode cX3_read 73 = .ok (.invokevirtual 70, 3) := by decide +kernel
theorem dX3_read_76 : decode cX3_read 76 = .ok (.goto 23, 3) := by decide +kernel
theorem dX3_read_79 : decode cX3_read 79 = .ok (.iload 5, 2) := by decide +kernel
theorem dX3_read_81 : decode cX3_read 81 = .ok (.bipush 37, 2) := by decide +kernel
theorem dX3_read_83 : decode cX3_read 83 = .ok (.if_icmp .ne 10, 3) := by decide +kernel
theorem dX3_read_86 : decode cX3_read 86 = .ok (.aload_n 0, 1) := by decide +kernel
theorem dX3_read_87 : decode cX3_read 87 = .ok (.invokevirtual 73, 3) := by decide +kernel
theorem dX3_read_90 : decode cX3_read 90 = .ok (.goto 9, 3) := by decide +kernel
theorem dX3_read_93 : decode cX3_read 93 = .ok (.aload_n 0, 1) := by decide +kernel
theorem dX3_read_94 : decode cX3_read 94 = .ok (.iload 5, 2) := by decide +kernel
theorem dX3_read_96 : decode cX3_read 96 = .ok (.invokevirtual 76, 3) := by decide +kernel
theorem dX3_read_99 : decode cX3_read 99 = .ok (.iinc 4 1, 3) := by decide +kernel
theorem dX3_read_102 : decode cX3_read 102 = .ok (.goto (-88), 3) := by decide +kernel
theorem dX3_read_105 : decode cX3_read 105 = .ok (.aload_n 0, 1) := by decide +kernel
theorem dX3_read_106 : decode cX3_read 106 = .ok (.invokevirtual 80, 3) := by decide +kernel
theorem dX3_read_109 : decode cX3_read 109 = .ok (.aload_n 0, 1) := by decide +kernel
theorem dX3_read_110 : decode cX3_read 110 = .ok (.getfield 22, 3) := by decide +kernel
theorem dX3_read_113 : decode cX3_read 113 = .ok (.ireturn, 1) := by decide +kernel
theorem dX3_readProcedure_0 : decode cX3_readProcedure 0 = .ok (.aload_n 0, 1) := by decide +kernel
theorem dX3_readProcedure_1 : decode cX3_readProcedure 1 = .ok (.invokevirtual 66, 3) := by decide +kernel
theorem dX3_readProcedure_4 : decode cX3_readProcedure 4 = .ok (.istore_n 1, 1) := by decide +kernel
theorem dX3_readProcedure_5 : decode cX3_readProcedure 5 = .ok (.iload_n 1, 1) := by decide +kernel
theorem dX3_readProcedure_6 : decode cX3_readProcedure 6 = .ok (.bipush 65, 2) := by decide +kernel
theorem dX3_readProcedure_8 : decode cX3_readProcedure 8 = .ok (.if_icmp .lt 9, 3) := by decide +kernel
theorem dX3_readProcedure_11 : decode cX3_readProcedure 11 = .ok (.iload_n 1, 1) := by decide +kernel
theorem dX3_readProcedure_12 : decode cX3_readProcedure 12 = .ok (.bipush 90, 2) := by decide +kernel
theorem dX3_readProcedure_14 : decode cX3_readProcedure 14 = .ok (.if_icmp .le 15, 3) := by decide +kernel
theorem dX3_readProcedure_17 : decode cX3_readProcedure 17 = .ok (.aload_n 0, 1) := by decide +kernel
theorem dX3_readProcedure_18 : decode cX3_readProcedure 18 = .ok (.iconst 1, 1) := by decide +kernel
theorem dX3_readProcedure_19 : decode cX3_readProcedure 19 = .ok (.aload_n 0, 1) := by decide +kernel
theorem dX3_readProcedure_20 : decode cX3_readProcedure 20 = .ok (.getfield 19, 3) := by decide +kernel
theorem dX3_readProcedure_23 : decode cX3_readProcedure 23 = .ok (.invokevirtual 101, 3) := by decide +kernel
theorem dX3_readProcedure_26 : decode cX3_readProcedure 26 = .ok (.goto 69, 3) := by decide +kernel
theorem dX3_readProcedure_29 : decode cX3_readProcedure 29 = .ok (.aload_n 0, 1) := by decide +kernel
theorem dX3_readProcedure_30 : decode cX3_readProcedure 30 = .ok (.getfield 46, 3) := by decide +kernel
theorem dX3_readProcedure_33 : decode cX3_readProcedure 33 = .ok (.getfield 115, 3) := by decide +kernel
theorem dX3_readProcedure_36 : decode cX3_readProcedure 36 = .ok (.iconst 5, 1) := by decide +kernel
theorem dX3_readProcedure_37 : decode cX3_readProcedure 37 = .ok (.if_icmp .ge 17, 3) := by decide +kernel
theorem dX3_readProcedure_40 : decode cX3_readProcedure 40 = .ok (.iload_n 1, 1) := by decide +kernel
theorem dX3_readProcedure_41 : decode cX3_readProcedure 41 = .ok (.bipush 65, 2) := by decide +kernel
theorem dX3_readProcedure_43 : decode cX3_readProcedure 43 = .ok (.aload_n 0, 1) := by decide +kernel
theorem dX3_readProcedure_44 : decode cX3_readProcedure 44 = .ok (.getfield 46, 3) := by decide +kernel
theorem dX3_readProcedure_47 : decode cX3_readProcedure 47 = .ok (.getfield 115, 3) := by decide +kernel
theorem dX3_readProcedure_50 : decode cX3_readProcedure 50 = .ok (.iadd, 1) := by decide +kernel
theorem dX3_readProcedure_51 : decode cX3_readProcedure 51 = .ok (.if_icmp .eq 15, 3) := by decide +kernel
theorem dX3_readProcedure_54 : decode cX3_readProcedure 54 = .ok (.aload_n 0, 1) := by decide +kernel
theorem dX3_readProcedure_55 : decode cX3_readProcedure 55 = .ok (.iconst 3, 1) := by decide +kernel
theorem dX3_readProcedure_56 : decode cX3_readProcedure 56 = .ok (.aload_n 0, 1) := by decide +kernel
theorem dX3_readProcedure_57 : decode cX3_readProcedure 57 = .ok (.getfield 19, 3) := by decide +kernel
theorem dX3_readProcedure_60 : decode cX3_readProcedure 60 = .ok (.invokevirtual 101, 3) := by decide +kernel
theorem dX3_readProcedure_63 : decode cX3_readProcedure 63 = .ok (.goto 32, 3) := by decide +kernel
theorem dX3_readProcedure_66 : decode cX3_readProcedure 66 = .ok (.aload_n 0, 1) := by decide +kernel
theorem dX3_readProcedure_67 : decode cX3_readProcedure 67 = .ok (.dup, 1) := by decide +kernel
theorem dX3_readProcedure_68 : decode cX3_readProcedure 68 = .ok (.getfield 19, 3) := by decide +kernel
theorem dX3_readProcedure_71 : decode cX3_readProcedure 71 = .ok (.iconst 1, 1) := by decide +kernel
theorem dX3_readProcedure_72 : decode cX3_readProcedure 72 = .ok (.iadd, 1) := by decide +kernel
theorem dX3_readProcedure_73 : decode cX3_readProcedure 73 = .ok (.putfield 19, 3) := by decide +kernel
theorem dX3_readProcedure_76 : decode cX3_readProcedure 76 = .ok (.aload_n 0, 1) := by decide +kernel
theorem dX3_readProcedure_77 : decode cX3_readProcedure 77 = .ok (.getfield 46, 3) := by decide +kernel
theorem dX3_readProcedure_80 : decode cX3_readProcedure 80 = .ok (.dup, 1) := by decide +kernel
theorem dX3_readProcedure_81 : decode cX3_readProcedure 81 = .ok (.getfield 115, 3) := by decide +kernel
theorem dX3_readProcedure_84 : decode cX3_readProcedure 84 = .ok (.iconst 1, 1) := by decide +kernel
theorem dX3_readProcedure_85 : decode cX3_readProcedure 85 = .ok (.iadd, 1) := by decide +kernel
theorem dX3_readProcedure_86 : decode cX3_readProcedure 86 = .ok (.putfield 115, 3) := by decide +kernel
theorem dX3_readProcedure_89 : decode cX3_readProcedure 89 = .ok (.aload_n 0, 1) := by decide +kernel
theorem dX3_readProcedure_90 : decode cX3_readProcedure 90 = .ok (.iconst (-1), 1) := by decide +kernel
theorem dX3_readProcedure_91 : decode cX3_readProcedure 91 = .ok (.iconst 0, 1) := by decide +kernel
theorem dX3_readProcedure_92 : decode cX3_readProcedure 92 = .ok (.invokevirtual 118, 3) := by decide +kernel
theorem dX3_readProcedure_95 : decode cX3_readProcedure 95 = .ok (.return_, 1) := by decide +kernel
theorem dX3_start_0 : decode cX3_start 0 = .ok (.aload_n 0, 1) := by decide +kernel
theorem dX3_start_1 : decode cX3_start 1 = .ok (.aload_n 1, 1) := by decide +kernel
theorem dX3_start_2 : decode cX3_start 2 = .ok (.putfield 9, 3) := by decide +kernel
theorem dX3_start_5 : decode cX3_start 5 = .ok (.aload_n 0, 1) := by decide +kernel
theorem dX3_start_6 : decode cX3_start 6 = .ok (.iload_n 2, 1) := by decide +kernel
theorem dX3_start_7 : decode cX3_start 7 = .ok (.aload_n 1, 1) := by decide +kernel
theorem dX3_start_8 : decode cX3_start 8 = .ok (.arraylength, 1) := by decide +kernel
theorem dX3_start_9 : decode cX3_start 9 = .ok (.invokestatic 83, 3) := by decide +kernel
theorem dX3_start_12 : decode cX3_start 12 = .ok (.putfield 15, 3) := by decide +kernel
theorem dX3_start_15 : decode cX3_start 15 = .ok (.aload_n 0, 1) := by decide +kernel
theorem dX3_start_16 : decode cX3_start 16 = .ok (.iconst 0, 1) := by decide +kernel
theorem dX3_start_17 : decode cX3_start 17 = .ok (.putfield 19, 3) := by decide +kernel
theorem dX3_start_20 : decode cX3_start 20 = .ok (.aload_n 0, 1) := by decide +kernel
theorem dX3_start_21 : decode cX3_start 21 = .ok (.iconst 0, 1) := by decide +kernel
theorem dX3_start_22 : decode cX3_start 22 = .ok (.putfield 22, 3) := by decide +kernel
theorem dX3_start_25 : decode cX3_start 25 = .ok (.aload_n 0, 1) := by decide +kernel
theorem dX3_start_26 : decode cX3_start 26 = .ok (.aload_n 3, 1) := by decide +kernel
theorem dX3_start_27 : decode cX3_start 27 = .ok (.putfield 46, 3) := by decide +kernel
theorem dX3_start_30 : decode cX3_start 30 = .ok (.aload_n 0, 1) := by decide +kernel
theorem dX3_start_31 : decode cX3_start 31 = .ok (.getfield 46, 3) := by decide +kernel
theorem dX3_start_34 : decode cX3_start 34 = .ok (.invokevirtual 89, 3) := by decide +kernel
theorem dX3_start_37 : decode cX3_start 37 = .ok (.aload_n 0, 1) := by decide +kernel
theorem dX3_start_38 : decode cX3_start 38 = .ok (.getfield 28, 3) := by decide +kernel
theorem dX3_start_41 : decode cX3_start 41 = .ok (.iconst 0, 1) := by decide +kernel
theorem dX3_start_42 : decode cX3_start 42 = .ok (.putfield 94, 3) := by decide +kernel
theorem dX3_start_45 : decode cX3_start 45 = .ok (.aload_n 0, 1) := by decide +kernel
theorem dX3_start_46 : decode cX3_start 46 = .ok (.iconst 0, 1) := by decide +kernel
theorem dX3_start_47 : decode cX3_start 47 = .ok (.putfield 32, 3) := by decide +kernel
theorem dX3_start_50 : decode cX3_start 50 = .ok (.return_, 1) := by decide +kernel
theorem dX7_program_0 : decode cX7_program 0 = .ok (.aload_n 0, 1) := by decide +kernel
theorem dX7_program_1 : decode cX7_program 1 = .ok (.getfield 13, 3) := by decide +kernel
theorem dX7_program_4 : decode cX7_program 4 = .ok (.istore_n 1, 1) := by decide +kernel
theorem dX7_program_5 : decode cX7_program 5 = .ok (.aload_n 0, 1) := by decide +kernel
theorem dX7_program_6 : decode cX7_program 6 = .ok (.iconst 0, 1) := by decide +kernel
theorem dX7_program_7 : decode cX7_program 7 = .ok (.putfield 13, 3) := by decide +kernel
theorem dX7_program_10 : decode cX7_program 10 = .ok (.aload_n 0, 1) := by decide +kernel
theorem dX7_program_11 : decode cX7_program 11 = .ok (.aload_n 0, 1) := by decide +kernel
theorem dX7_program_12 : decode cX7_program 12 = .ok (.getfield 35, 3) := by decide +kernel
theorem dX7_program_15 : decode cX7_program 15 = .ok (.aload_n 0, 1) := by decide +kernel
theorem dX7_program_16 : decode cX7_program 16 = .ok (.getfield 9, 3) := by decide +kernel
theorem dX7_program_19 : decode cX7_program 19 = .ok (.iload_n 1, 1) := by decide +kernel
theorem dX7_program_20 : decode cX7_program 20 = .ok (.aload_n 0, 1) := by decide +kernel
theorem dX7_program_21 : decode cX7_program 21 = .ok (.getfield 27, 3) := by decide +kernel
theorem dX7_program_24 : decode cX7_program 24 = .ok (.invokevirtual 57, 3) := by decide +kernel
theorem dX7_program_27 : decode cX7_program 27 = .ok (.putfield 17, 3) := by decide +kernel
theorem dX7_program_30 : decode cX7_program 30 = .ok (.aload_n 0, 1) := by decide +kernel
theorem dX7_program_31 : decode cX7_program 31 = .ok (.getfield 17, 3) := by decide +kernel
theorem dX7_program_34 : decode cX7_program 34 = .ok (.ifCond .eq 6, 3) := by decide +kernel
theorem dX7_program_37 : decode cX7_program 37 = .ok (.bipush (-2), 2) := by decide +kernel
theorem dX7_program_39 : decode cX7_program 39 = .ok (.ireturn, 1) := by decide +kernel
theorem dX7_program_40 : decode cX7_program 40 = .ok (.aload_n 0, 1) := by decide +kernel
theorem dX7_program_41 : decode cX7_program 41 = .ok (.getfield 23, 3) := by decide +kernel
theorem dX7_program_44 : decode cX7_program 44 = .ok (.astore_n 2, 1) := by decide +kernel
theorem dX7_program_45 : decode cX7_program 45 = .ok (.aload_n 0, 1) := by decide +kernel
theorem dX7_program_46 : decode cX7_program 46 = .ok (.aload_n 0, 1) := by decide +kernel
theorem dX7_program_47 : decode cX7_program 47 = .ok (.getfield 27, 3) := by decide +kernel
theorem dX7_program_50 : decode cX7_program 50 = .ok (.putfield 23, 3) := by decide +kernel
theorem dX7_program_53 : decode cX7_program 53 = .ok (.aload_n 0, 1) := by decide +kernel
theorem dX7_program_54 : decode cX7_program 54 = .ok (.aload_n 2, 1) := by decide +kernel
theorem dX7_program_55 : decode cX7_program 55 = .ok (.putfield 27, 3) := by decide +kernel
theorem dX7_program_58 : decode cX7_program 58 = .ok (.aload_n 0, 1) := by decide +kernel
theorem dX7_program_59 : decode cX7_program 59 = .ok (.getfield 42, 3) := by decide +kernel
theorem dX7_program_62 : decode cX7_program 62 = .ok (.invokevirtual 61, 3) := by decide +kernel
theorem dX7_program_65 : decode cX7_program 65 = .ok (.aload_n 0, 1) := by decide +kernel
theorem dX7_program_66 : decode cX7_program 66 = .ok (.getfield 49, 3) := by decide +kernel
theorem dX7_program_69 : decode cX7_program 69 = .ok (.invokevirtual 64, 3) := by decide +kernel
theorem dX7_program_72 : decode cX7_program 72 = .ok (.aload_n 0, 1) := by decide +kernel
theorem dX7_program_73 : decode cX7_program 73 = .ok (.getfield 23, 3) := by decide +kernel
theorem dX7_program_76 : decode cX7_program 76 = .ok (.getfield 65, 3) := by decide +kernel
theorem dX7_program_79 : decode cX7_program 79 = .ok (.ireturn, 1) := by decide +kernel
set_option maxHeartbeats 4000000 in
set_option maxRecDepth 100000 in
theorem s_X3_closeBlock (l : Launch) (d : Nat) {P : PP} {h : HP} (hv : Iv P h) (hp : 1 ≤ (h.2.1 34 7).toInt) (hp2 : (h.2.1 34 2).toInt ≤ 499) (hpr : PR h) : Mt l yX3_closeBlock cX3_closeBlock 2 none (d + 4) [.ref 34] h 0 0 (fun r h' => r = none ∧ Iv P h' ∧ (PR h → PR h')) := by
  refine Mt_iv hv (by decide) (Nat.le_of_ble_eq_true rfl) ?_
  show Go l RX3 cX3_closeBlock 2 (g_rm (d + 4) 0 0) "closeBlock" none 117 0 0 (fun _ _ => True) (fun r h' => r = none ∧ Iv P h' ∧ (PR h → PR h')) 0 0 [(0, .ref 34)] [] h
  have pr : PR h → PR h := id
  refine go_aload_n (pc := 0) rfl dX3_closeBlock_0 ?_
  refine go_dup (pc := 1) rfl dX3_closeBlock_1 ?_
  refine gi_get (pc := 2) (lo := 0) (hi := 500) hv fL_X3_19 rfl (Nat.le_of_ble_eq_true rfl) rfl rfl dX3_closeBlock_2 (fun v1 v1l v1u v1w => ?_)
  have g2 : (h.2.1 34 2).toInt = v1.toInt := by rw [v1w]
  have kp : v1.toInt ≤ 499 := by rw [v1w]; exact hp2
  refine go_iconst (pc := 5) (v := 1) (by decide) dX3_closeBlock_5 ?_
  refine gf_iadd (pc := 6) (ti_rfl v1) (ti_c (v := 1) (a := 1) (by decide)) (by omega) (by omega) dX3_closeBlock_6 (fun v3 e4 => ?_)
  refine gi_put (pc := 7) (lo := 0) (hi := 500) hv e4 (fP_X3_19 _) rfl (Nat.le_of_ble_eq_true rfl) rfl rfl (by omega) (by omega) rfl rfl (by decide) (by decide) (by decide) (by decide) dX3_closeBlock_7 (fun h5 hv5 hv5e => ?_)
  have pr5 : PR h → PR h5 := fun z => by rw [hv5e]; exact PR.put hv (pr z) (by omega)
  refine go_aload_n (pc := 10) rfl dX3_closeBlock_10 ?_
  refine go_dup (pc := 11) rfl dX3_closeBlock_11 ?_
  refine gi_get (pc := 12) (lo := 0) (hi := 7) hv5 fL_X3_32 rfl (Nat.le_of_ble_eq_true rfl) rfl rfl dX3_closeBlock_12 (fun v6 v6l v6u v6w => ?_)
  have g7 : (h5.2.1 34 7).toInt = v6.toInt := by rw [v6w]
  have ko : 1 ≤ v6.toInt := by rw [v6w, hv5e]; exact hp
  refine go_iconst (pc := 15) (v := 1) (by decide) dX3_closeBlock_15 ?_
  refine gf_isub (pc := 16) (ti_rfl v6) (ti_c (v := 1) (a := 1) (by decide)) (by omega) (by omega) dX3_closeBlock_16 (fun v8 e9 => ?_)
  refine gi_put (pc := 17) (lo := 0) (hi := 7) hv5 e9 (fP_X3_32 _) rfl (Nat.le_of_ble_eq_true rfl) rfl rfl (by omega) (by omega) rfl rfl (by decide) (by decide) (by decide) (by decide) dX3_closeBlock_17 (fun h10 hv10 hv10e => ?_)
  have pr10 : PR h → PR h10 := fun z => by rw [hv10e]; exact PR.put hv5 (pr5 z) (by omega)
  refine go_aload_n (pc := 20) rfl dX3_closeBlock_20 ?_
  refine gi_getF (pc := 21) (q := 45) hv10 fL_X3_35 rfl (Nat.le_of_ble_eq_true rfl) rfl (hv10.rf (by decide)) dX3_closeBlock_21 ?_
  refine go_aload_n (pc := 24) rfl dX3_closeBlock_24 ?_
  refine gi_get (pc := 25) (lo := 0) (hi := 7) hv10 fL_X3_32 rfl (Nat.le_of_ble_eq_true rfl) rfl rfl dX3_closeBlock_25 (fun v11 v11l v11u v11w => ?_)
  have v11r : v8 = h10.2.1 34 7 := (show v8 = h10.2.1 34 7 from by rw [hv10e]; exact g_iS.symm)
  have v11q : TI v11 ((v6.toInt - 1)) := by rw [v11w.trans v11r.symm]; exact e9
  refine gi_iald (pc := 28) (lo := -1) (hi := 127) (len := 7) hv10 v11q rfl (by omega) (by omega) (fun _ => rfl) dX3_closeBlock_28 (fun v12 v12l v12u v12w => ?_)
  refine go_istore_n (pc := 29) (Nat.le_of_ble_eq_true rfl) dX3_closeBlock_29 (go_lv (lv2 := [(0, .ref 34), (1, .int v12)]) rfl ?_)
  refine go_iload_n (pc := 30) rfl dX3_closeBlock_30 ?_
  refine gf_if_ge (pc := 31) (tgt := 63) (ti_rfl v12) (by decide) dX3_closeBlock_31 (fun q13 => ?_) (fun q13 => ?_)
  ·
    refine go_aload_n (pc := 63) rfl dX3_closeBlock_63 ?_
    refine gi_getF (pc := 64) (q := 47) hv10 fL_X3_42 rfl (Nat.le_of_ble_eq_true rfl) rfl (hv10.rf (by decide)) dX3_closeBlock_64 ?_
    refine go_aload_n (pc := 67) rfl dX3_closeBlock_67 ?_
    refine gi_get (pc := 68) (lo := 0) (hi := 7) hv10 fL_X3_32 rfl (Nat.le_of_ble_eq_true rfl) rfl rfl dX3_closeBlock_68 (fun v14 v14l v14u v14w => ?_)
    have v14r : v8 = h10.2.1 34 7 := (show v8 = h10.2.1 34 7 from by rw [hv10e]; exact g_iS.symm)
    have v14q : TI v14 ((v6.toInt - 1)) := by rw [v14w.trans v14r.symm]; exact e9
    refine gi_zald (pc := 71) (lo := 0) (hi := 1) (len := 7) hv10 v14q rfl (by omega) (by omega) (fun _ => rfl) dX3_closeBlock_71 (fun v15 v15l v15u v15w => ?_)
    refine gf_if_eq (pc := 72) (tgt := 96) (ti_rfl v15) (by decide) dX3_closeBlock_72 (fun q16 => ?_) (fun q16 => ?_)
    ·
      refine go_aload_n (pc := 96) rfl dX3_closeBlock_96 ?_
      refine gi_getF (pc := 97) (q := 36) hv10 fL_X3_28 rfl (Nat.le_of_ble_eq_true rfl) rfl (hv10.rf (by decide)) dX3_closeBlock_97 ?_
      refine gi_getF (pc := 100) (q := 39) hv10 fL_X3_128 rfl (Nat.le_of_ble_eq_true rfl) rfl (hv10.rf (by decide)) dX3_closeBlock_100 ?_
      refine go_iload_n (pc := 103) rfl dX3_closeBlock_103 ?_
      refine go_aload_n (pc := 104) rfl dX3_closeBlock_104 ?_
      refine gi_getF (pc := 105) (q := 46) hv10 fL_X3_39 rfl (Nat.le_of_ble_eq_true rfl) rfl (hv10.rf (by decide)) dX3_closeBlock_105 ?_
      refine go_aload_n (pc := 108) rfl dX3_closeBlock_108 ?_
      refine gi_get (pc := 109) (lo := 0) (hi := 7) hv10 fL_X3_32 rfl (Nat.le_of_ble_eq_true rfl) rfl rfl dX3_closeBlock_109 (fun v17 v17l v17u v17w => ?_)
      have v17r : v8 = h10.2.1 34 7 := (show v8 = h10.2.1 34 7 from by rw [hv10e]; exact g_iS.symm)
      have v17q : TI v17 ((v6.toInt - 1)) := by rw [v17w.trans v17r.symm]; exact e9
      refine gi_iald (pc := 112) (lo := -1) (hi := 127) (len := 7) hv10 v17q rfl (by omega) (by omega) (fun _ => rfl) dX3_closeBlock_112 (fun v18 v18l v18u v18w => ?_)
      refine gi_iast (pc := 113) (lo := -1) (hi := 127) (len := 128) hv10 (ti_rfl v12) (ti_rfl v18) rfl (by omega) (by omega) (fun _ => rfl) (by omega) (by omega) (by decide) dX3_closeBlock_113 (fun h19 hv19 hv19e => ?_)
      have pr19 : PR h → PR h19 := fun z => by rw [hv19e]; exact PR.put hv10 (pr10 z) (by omega)
      refine go_aload_n (pc := 114) rfl dX3_closeBlock_114 ?_
      refine go_iload_n (pc := 115) rfl dX3_closeBlock_115 ?_
      refine go_invV (pc := 116) (sl := 0) (s_X3_readSecond l (d + 0) hv19 v12 (by rw [show (v12 : Int32).toInt = v12.toInt from (ti_rfl v12)]; omega) (by rw [show (v12 : Int32).toInt = v12.toInt from (ti_rfl v12)]; omega)) mL_X3_131 iM_X3_readSecond sM_X3_readSecond (hv19.sh rfl) rfl rfl rfl (Nat.le_of_ble_eq_true rfl) (show d + 0 + 3 + 1 ≤ d + 4 by omega) (show 8 + (5 + 11) + 40 * (d + 0 + 3) ≤ 40 * (d + 4) by omega) (g_c0 hv19.ln) (Nat.le_of_ble_eq_true rfl) dX3_closeBlock_116 ?_
      intro r h20 hq _
      obtain ⟨rfl, hv20, pt20⟩ := hq
      have pr20 : PR h → PR h20 := fun z => pt20 (pr19 z)
      obtain ⟨u21, u21w⟩ : ∃ v : Int32, v = h20.2.1 34 2 := ⟨_, rfl⟩
      have u21e : (h20.2.1 34 2).toInt = u21.toInt := by rw [u21w]
      have u21l : 0 ≤ u21.toInt := by rw [u21w]; exact (hv20.2.1 34 2).1
      have u21u : u21.toInt ≤ 500 := by rw [u21w]; exact (hv20.2.1 34 2).2
      obtain ⟨u22, u22w⟩ : ∃ v : Int32, v = h20.2.1 34 7 := ⟨_, rfl⟩
      have u22e : (h20.2.1 34 7).toInt = u22.toInt := by rw [u22w]
      have u22l : 0 ≤ u22.toInt := by rw [u22w]; exact (hv20.2.1 34 7).1
      have u22u : u22.toInt ≤ 7 := by rw [u22w]; exact (hv20.2.1 34 7).2
      exact gi_vret (pc := 119) ⟨rfl, hv20, pr20⟩ hv20 dX3_closeBlock_119
    ·
      refine go_aload_n (pc := 75) rfl dX3_closeBlock_75 ?_
      refine gi_getF (pc := 76) (q := 36) hv10 fL_X3_28 rfl (Nat.le_of_ble_eq_true rfl) rfl (hv10.rf (by decide)) dX3_closeBlock_76 ?_
      refine gi_getF (pc := 79) (q := 40) hv10 fL_X3_125 rfl (Nat.le_of_ble_eq_true rfl) rfl (hv10.rf (by decide)) dX3_closeBlock_79 ?_
      refine go_iload_n (pc := 82) rfl dX3_closeBlock_82 ?_
      refine go_aload_n (pc := 83) rfl dX3_closeBlock_83 ?_
      refine gi_getF (pc := 84) (q := 46) hv10 fL_X3_39 rfl (Nat.le_of_ble_eq_true rfl) rfl (hv10.rf (by decide)) dX3_closeBlock_84 ?_
      refine go_aload_n (pc := 87) rfl dX3_closeBlock_87 ?_
      refine gi_get (pc := 88) (lo := 0) (hi := 7) hv10 fL_X3_32 rfl (Nat.le_of_ble_eq_true rfl) rfl rfl dX3_closeBlock_88 (fun v23 v23l v23u v23w => ?_)
      have v23r : v8 = h10.2.1 34 7 := (show v8 = h10.2.1 34 7 from by rw [hv10e]; exact g_iS.symm)
      have v23q : TI v23 ((v6.toInt - 1)) := by rw [v23w.trans v23r.symm]; exact e9
      refine gi_iald (pc := 91) (lo := -1) (hi := 127) (len := 7) hv10 v23q rfl (by omega) (by omega) (fun _ => rfl) dX3_closeBlock_91 (fun v24 v24l v24u v24w => ?_)
      refine gi_iast (pc := 92) (lo := -1) (hi := 127) (len := 128) hv10 (ti_rfl v12) (ti_rfl v24) rfl (by omega) (by omega) (fun _ => rfl) (by omega) (by omega) (by decide) dX3_closeBlock_92 (fun h25 hv25 hv25e => ?_)
      have pr25 : PR h → PR h25 := fun z => by rw [hv25e]; exact PR.put hv10 (pr10 z) (by omega)
      refine go_goto (pc := 93) (tgt := 119) (by decide) dX3_closeBlock_93 ?_
      exact gi_vret (pc := 119) ⟨rfl, hv25, pr25⟩ hv25 dX3_closeBlock_119
  ·
    refine go_aload_n (pc := 34) rfl dX3_closeBlock_34 ?_
    refine gi_getF (pc := 35) (q := 36) hv10 fL_X3_28 rfl (Nat.le_of_ble_eq_true rfl) rfl (hv10.rf (by decide)) dX3_closeBlock_35 ?_
    refine gi_getF (pc := 38) (q := 44) hv10 fL_X3_122 rfl (Nat.le_of_ble_eq_true rfl) rfl (hv10.rf (by decide)) dX3_closeBlock_38 ?_
    refine go_aload_n (pc := 41) rfl dX3_closeBlock_41 ?_
    refine gi_getC (pc := 42) hv10 fL_X3_46 rfl (Nat.le_of_ble_eq_true rfl) rfl (by decide) dX3_closeBlock_42 (fun c26 hc26 fc26 => ?_)
    refine gi_get (pc := 45) (lo := 0) (hi := 5) hv10 fL_X3_115 (by rcases hc26 with rfl | rfl <;> rfl) (Nat.le_of_ble_eq_true rfl) rfl (by rcases hc26 with rfl | rfl <;> rfl) dX3_closeBlock_45 (fun v27 v27l v27u v27w => ?_)
    have kq : 1 ≤ v27.toInt := by rw [v27w]; exact (pr10 hpr) c26 fc26
    refine go_iconst (pc := 48) (v := 1) (by decide) dX3_closeBlock_48 ?_
    refine gf_isub (pc := 49) (ti_rfl v27) (ti_c (v := 1) (a := 1) (by decide)) (by omega) (by omega) dX3_closeBlock_49 (fun v28 e29 => ?_)
    refine go_aload_n (pc := 50) rfl dX3_closeBlock_50 ?_
    refine gi_getF (pc := 51) (q := 46) hv10 fL_X3_39 rfl (Nat.le_of_ble_eq_true rfl) rfl (hv10.rf (by decide)) dX3_closeBlock_51 ?_
    refine go_aload_n (pc := 54) rfl dX3_closeBlock_54 ?_
    refine gi_get (pc := 55) (lo := 0) (hi := 7) hv10 fL_X3_32 rfl (Nat.le_of_ble_eq_true rfl) rfl rfl dX3_closeBlock_55 (fun v30 v30l v30u v30w => ?_)
    have v30r : v8 = h10.2.1 34 7 := (show v8 = h10.2.1 34 7 from by rw [hv10e]; exact g_iS.symm)
    have v30q : TI v30 ((v6.toInt - 1)) := by rw [v30w.trans v30r.symm]; exact e9
    refine gi_iald (pc := 58) (lo := -1) (hi := 127) (len := 7) hv10 v30q rfl (by omega) (by omega) (fun _ => rfl) dX3_closeBlock_58 (fun v31 v31l v31u v31w => ?_)
    refine gi_iast (pc := 59) (lo := -1) (hi := 127) (len := 5) hv10 e29 (ti_rfl v31) rfl (by omega) (by omega) (fun _ => rfl) (by omega) (by omega) (by decide) dX3_closeBlock_59 (fun h32 hv32 hv32e => ?_)
    have pr32 : PR h → PR h32 := fun z => by rw [hv32e]; exact PR.put hv10 (pr10 z) (by omega)
    refine go_goto (pc := 60) (tgt := 119) (by decide) dX3_closeBlock_60 ?_
    exact gi_vret (pc := 119) ⟨rfl, hv32, pr32⟩ hv32 dX3_closeBlock_119
set_option maxHeartbeats 4000000 in
set_option maxRecDepth 100000 in
theorem s_X3_readProcedure (l : Launch) (d : Nat) {P : PP} {h : HP} (hv : Iv P h)  : Mt l yX3_readProcedure cX3_readProcedure 2 none (d + 3) [.ref 34] h 0 0 (fun r h' => r = none ∧ Iv P h' ∧ ((h'.2.1 34 3).toInt = 0 → PR h')) := by
  refine Mt_iv hv (by decide) (Nat.le_of_ble_eq_true rfl) ?_
  show Go l RX3 cX3_readProcedure 2 (g_rm (d + 3) 0 0) "readProcedure" none 117 0 0 (fun _ _ => True) (fun r h' => r = none ∧ Iv P h' ∧ ((h'.2.1 34 3).toInt = 0 → PR h')) 0 0 [(0, .ref 34)] [] h
  refine go_aload_n (pc := 0) rfl dX3_readProcedure_0 ?_
  have g1 : (0 : Int) ≤ (h.2.1 34 2).toInt := (hv.2.1 34 2).1
  have g2 : (h.2.1 34 2).toInt ≤ 500 := (hv.2.1 34 2).2
  have g3 : (-2147483648 : Int) ≤ (h.2.1 34 3).toInt := (hv.2.1 34 3).1
  have g4 : (h.2.1 34 3).toInt ≤ 2147483647 := (hv.2.1 34 3).2
  refine go_invV (pc := 1) (sl := 0) (s_X3_look l (d + 1) hv ) mL_X3_66 iM_X3_look sM_X3_look (hv.sh rfl) rfl rfl rfl (Nat.le_of_ble_eq_true rfl) (show d + 1 + 1 + 1 ≤ d + 3 by omega) (show 8 + (1 + 11) + 40 * (d + 1 + 1) ≤ 40 * (d + 3) by omega) (g_c0 hv.ln) (Nat.le_of_ble_eq_true rfl) dX3_readProcedure_1 ?_
  intro r h5 hq _
  obtain ⟨v9, rfl, v9l, v9u, hv5, f6, f7, f8, pt5⟩ := hq
  obtain ⟨u10, u10w⟩ : ∃ v : Int32, v = h5.2.1 34 2 := ⟨_, rfl⟩
  have u10e : (h5.2.1 34 2).toInt = u10.toInt := by rw [u10w]
  have u10l : 0 ≤ u10.toInt := by rw [u10w]; exact (hv5.2.1 34 2).1
  have u10u : u10.toInt ≤ 500 := by rw [u10w]; exact (hv5.2.1 34 2).2
  obtain ⟨u11, u11w⟩ : ∃ v : Int32, v = h5.2.1 34 3 := ⟨_, rfl⟩
  have u11e : (h5.2.1 34 3).toInt = u11.toInt := by rw [u11w]
  have u11l : -2147483648 ≤ u11.toInt := by rw [u11w]; exact (hv5.2.1 34 3).1
  have u11u : u11.toInt ≤ 2147483647 := by rw [u11w]; exact (hv5.2.1 34 3).2
  refine go_istore_n (pc := 4) (Nat.le_of_ble_eq_true rfl) dX3_readProcedure_4 (go_lv (lv2 := [(0, .ref 34), (1, .int v9)]) rfl ?_)
  refine go_iload_n (pc := 5) rfl dX3_readProcedure_5 ?_
  refine go_bipush (pc := 6) (v := 65) (by decide) dX3_readProcedure_6 ?_
  refine gf_icmp_lt (pc := 8) (tgt := 17) (ti_rfl v9) (ti_c (v := 65) (a := 65) (by decide)) (by decide) dX3_readProcedure_8 (fun q12 => ?_) (fun q12 => ?_)
  ·
    refine go_aload_n (pc := 17) rfl dX3_readProcedure_17 ?_
    refine go_iconst (pc := 18) (v := 1) (by decide) dX3_readProcedure_18 ?_
    refine go_aload_n (pc := 19) rfl dX3_readProcedure_19 ?_
    refine gi_get (pc := 20) (lo := 0) (hi := 500) hv5 fL_X3_19 rfl (Nat.le_of_ble_eq_true rfl) rfl rfl dX3_readProcedure_20 (fun v13 v13l v13u v13w => ?_)
    have v13r : u10 = h5.2.1 34 2 := u10w
    have v13q : TI v13 u10.toInt := by rw [v13w.trans v13r.symm]; exact (ti_rfl u10)
    have g14 : (0 : Int) ≤ (h5.2.1 34 2).toInt := (hv5.2.1 34 2).1
    have g15 : (h5.2.1 34 2).toInt ≤ 500 := (hv5.2.1 34 2).2
    have g16 : (-2147483648 : Int) ≤ (h5.2.1 34 3).toInt := (hv5.2.1 34 3).1
    have g17 : (h5.2.1 34 3).toInt ≤ 2147483647 := (hv5.2.1 34 3).2
    have g18 : (h5.2.1 34 2).toInt = u10.toInt := by rw [← (show u10 = h5.2.1 34 2 from u10w)] <;> exact (ti_rfl u10)
    have g19 : (h5.2.1 34 3).toInt = u11.toInt := by rw [← (show u11 = h5.2.1 34 3 from u11w)] <;> exact (ti_rfl u11)
    refine go_invV (pc := 23) (sl := 0) (s_X3_blame l (d + 1) hv5 1 (by rw [show (1 : Int32).toInt = 1 from (ti_c (v := 1) (a := 1) (by decide))]; omega) (by rw [show (1 : Int32).toInt = 1 from (ti_c (v := 1) (a := 1) (by decide))]; omega) v13 (by rw [show (v13 : Int32).toInt = u10.toInt from v13q]; omega) (by rw [show (v13 : Int32).toInt = u10.toInt from v13q]; omega)) mL_X3_101 iM_X3_blame sM_X3_blame (hv5.sh rfl) rfl rfl rfl (Nat.le_of_ble_eq_true rfl) (show d + 1 + 1 + 1 ≤ d + 3 by omega) (show 8 + (3 + 11) + 40 * (d + 1 + 1) ≤ 40 * (d + 3) by omega) (g_c0 hv5.ln) (Nat.le_of_ble_eq_true rfl) dX3_readProcedure_23 ?_
    intro r h20 hq _
    obtain ⟨rfl, hv20, f21, f22, f23, f24, pt20⟩ := hq
    try rw [show (1 : Int32).toInt = 1 from (ti_c (v := 1) (a := 1) (by decide))] at f21
    try rw [show (v13 : Int32).toInt = u10.toInt from v13q] at f21
    try rw [show (1 : Int32).toInt = 1 from (ti_c (v := 1) (a := 1) (by decide))] at f22
    try rw [show (v13 : Int32).toInt = u10.toInt from v13q] at f22
    try rw [show (1 : Int32).toInt = 1 from (ti_c (v := 1) (a := 1) (by decide))] at f23
    try rw [show (v13 : Int32).toInt = u10.toInt from v13q] at f23
    try rw [show (1 : Int32).toInt = 1 from (ti_c (v := 1) (a := 1) (by decide))] at f24
    try rw [show (v13 : Int32).toInt = u10.toInt from v13q] at f24
    obtain ⟨u25, u25w⟩ : ∃ v : Int32, v = h20.2.1 34 2 := ⟨_, rfl⟩
    have u25e : (h20.2.1 34 2).toInt = u25.toInt := by rw [u25w]
    have u25l : 0 ≤ u25.toInt := by rw [u25w]; exact (hv20.2.1 34 2).1
    have u25u : u25.toInt ≤ 500 := by rw [u25w]; exact (hv20.2.1 34 2).2
    obtain ⟨u26, u26w⟩ : ∃ v : Int32, v = h20.2.1 34 3 := ⟨_, rfl⟩
    have u26e : (h20.2.1 34 3).toInt = u26.toInt := by rw [u26w]
    have u26l : -2147483648 ≤ u26.toInt := by rw [u26w]; exact (hv20.2.1 34 3).1
    have u26u : u26.toInt ≤ 2147483647 := by rw [u26w]; exact (hv20.2.1 34 3).2
    refine go_goto (pc := 26) (tgt := 95) (by decide) dX3_readProcedure_26 ?_
    exact gi_vret (pc := 95) ⟨rfl, hv20, (fun q => absurd q f21)⟩ hv20 dX3_readProcedure_95
  ·
    refine go_iload_n (pc := 11) rfl dX3_readProcedure_11 ?_
    refine go_bipush (pc := 12) (v := 90) (by decide) dX3_readProcedure_12 ?_
    refine gf_icmp_le (pc := 14) (tgt := 29) (ti_rfl v9) (ti_c (v := 90) (a := 90) (by decide)) (by decide) dX3_readProcedure_14 (fun q27 => ?_) (fun q27 => ?_)
    ·
      refine go_aload_n (pc := 29) rfl dX3_readProcedure_29 ?_
      refine gi_getC (pc := 30) hv5 fL_X3_46 rfl (Nat.le_of_ble_eq_true rfl) rfl (by decide) dX3_readProcedure_30 (fun c28 hc28 fc28 => ?_)
      refine gi_get (pc := 33) (lo := 0) (hi := 5) hv5 fL_X3_115 (by rcases hc28 with rfl | rfl <;> rfl) (Nat.le_of_ble_eq_true rfl) rfl (by rcases hc28 with rfl | rfl <;> rfl) dX3_readProcedure_33 (fun v29 v29l v29u v29w => ?_)
      refine go_iconst (pc := 36) (v := 5) (by decide) dX3_readProcedure_36 ?_
      refine gf_icmp_ge (pc := 37) (tgt := 54) (ti_rfl v29) (ti_c (v := 5) (a := 5) (by decide)) (by decide) dX3_readProcedure_37 (fun q30 => ?_) (fun q30 => ?_)
      ·
        refine go_aload_n (pc := 54) rfl dX3_readProcedure_54 ?_
        refine go_iconst (pc := 55) (v := 3) (by decide) dX3_readProcedure_55 ?_
        refine go_aload_n (pc := 56) rfl dX3_readProcedure_56 ?_
        refine gi_get (pc := 57) (lo := 0) (hi := 500) hv5 fL_X3_19 rfl (Nat.le_of_ble_eq_true rfl) rfl rfl dX3_readProcedure_57 (fun v31 v31l v31u v31w => ?_)
        have v31r : u10 = h5.2.1 34 2 := u10w
        have v31q : TI v31 u10.toInt := by rw [v31w.trans v31r.symm]; exact (ti_rfl u10)
        have g32 : (0 : Int) ≤ (h5.2.1 34 2).toInt := (hv5.2.1 34 2).1
        have g33 : (h5.2.1 34 2).toInt ≤ 500 := (hv5.2.1 34 2).2
        have g34 : (-2147483648 : Int) ≤ (h5.2.1 34 3).toInt := (hv5.2.1 34 3).1
        have g35 : (h5.2.1 34 3).toInt ≤ 2147483647 := (hv5.2.1 34 3).2
        have g36 : (h5.2.1 34 2).toInt = u10.toInt := by rw [← (show u10 = h5.2.1 34 2 from u10w)] <;> exact (ti_rfl u10)
        have g37 : (h5.2.1 34 3).toInt = u11.toInt := by rw [← (show u11 = h5.2.1 34 3 from u11w)] <;> exact (ti_rfl u11)
        refine go_invV (pc := 60) (sl := 0) (s_X3_blame l (d + 1) hv5 3 (by rw [show (3 : Int32).toInt = 3 from (ti_c (v := 3) (a := 3) (by decide))]; omega) (by rw [show (3 : Int32).toInt = 3 from (ti_c (v := 3) (a := 3) (by decide))]; omega) v31 (by rw [show (v31 : Int32).toInt = u10.toInt from v31q]; omega) (by rw [show (v31 : Int32).toInt = u10.toInt from v31q]; omega)) mL_X3_101 iM_X3_blame sM_X3_blame (hv5.sh rfl) rfl rfl rfl (Nat.le_of_ble_eq_true rfl) (show d + 1 + 1 + 1 ≤ d + 3 by omega) (show 8 + (3 + 11) + 40 * (d + 1 + 1) ≤ 40 * (d + 3) by omega) (g_c0 hv5.ln) (Nat.le_of_ble_eq_true rfl) dX3_readProcedure_60 ?_
        intro r h38 hq _
        obtain ⟨rfl, hv38, f39, f40, f41, f42, pt38⟩ := hq
        try rw [show (3 : Int32).toInt = 3 from (ti_c (v := 3) (a := 3) (by decide))] at f39
        try rw [show (v31 : Int32).toInt = u10.toInt from v31q] at f39
        try rw [show (3 : Int32).toInt = 3 from (ti_c (v := 3) (a := 3) (by decide))] at f40
        try rw [show (v31 : Int32).toInt = u10.toInt from v31q] at f40
        try rw [show (3 : Int32).toInt = 3 from (ti_c (v := 3) (a := 3) (by decide))] at f41
        try rw [show (v31 : Int32).toInt = u10.toInt from v31q] at f41
        try rw [show (3 : Int32).toInt = 3 from (ti_c (v := 3) (a := 3) (by decide))] at f42
        try rw [show (v31 : Int32).toInt = u10.toInt from v31q] at f42
        obtain ⟨u43, u43w⟩ : ∃ v : Int32, v = h38.2.1 34 2 := ⟨_, rfl⟩
        have u43e : (h38.2.1 34 2).toInt = u43.toInt := by rw [u43w]
        have u43l : 0 ≤ u43.toInt := by rw [u43w]; exact (hv38.2.1 34 2).1
        have u43u : u43.toInt ≤ 500 := by rw [u43w]; exact (hv38.2.1 34 2).2
        obtain ⟨u44, u44w⟩ : ∃ v : Int32, v = h38.2.1 34 3 := ⟨_, rfl⟩
        have u44e : (h38.2.1 34 3).toInt = u44.toInt := by rw [u44w]
        have u44l : -2147483648 ≤ u44.toInt := by rw [u44w]; exact (hv38.2.1 34 3).1
        have u44u : u44.toInt ≤ 2147483647 := by rw [u44w]; exact (hv38.2.1 34 3).2
        refine go_goto (pc := 63) (tgt := 95) (by decide) dX3_readProcedure_63 ?_
        exact gi_vret (pc := 95) ⟨rfl, hv38, (fun q => absurd q f39)⟩ hv38 dX3_readProcedure_95
      ·
        refine go_iload_n (pc := 40) rfl dX3_readProcedure_40 ?_
        refine go_bipush (pc := 41) (v := 65) (by decide) dX3_readProcedure_41 ?_
        refine go_aload_n (pc := 43) rfl dX3_readProcedure_43 ?_
        refine gi_getC (pc := 44) hv5 fL_X3_46 rfl (Nat.le_of_ble_eq_true rfl) rfl (by decide) dX3_readProcedure_44 (fun c45 hc45 fc45 => ?_)
        refine gi_get (pc := 47) (lo := 0) (hi := 5) hv5 fL_X3_115 (by rcases hc45 with rfl | rfl <;> rfl) (Nat.le_of_ble_eq_true rfl) rfl (by rcases hc45 with rfl | rfl <;> rfl) dX3_readProcedure_47 (fun v46 v46l v46u v46w => ?_)
        refine gf_iadd (pc := 50) (ti_c (v := 65) (a := 65) (by decide)) (ti_rfl v46) (by omega) (by omega) dX3_readProcedure_50 (fun v47 e48 => ?_)
        refine gf_icmp_eq (pc := 51) (tgt := 66) (ti_rfl v9) e48 (by decide) dX3_readProcedure_51 (fun q49 => ?_) (fun q49 => ?_)
        ·
          refine go_aload_n (pc := 66) rfl dX3_readProcedure_66 ?_
          refine go_dup (pc := 67) rfl dX3_readProcedure_67 ?_
          refine gi_get (pc := 68) (lo := 0) (hi := 500) hv5 fL_X3_19 rfl (Nat.le_of_ble_eq_true rfl) rfl rfl dX3_readProcedure_68 (fun v50 v50l v50u v50w => ?_)
          have v50r : u10 = h5.2.1 34 2 := u10w
          have v50q : TI v50 u10.toInt := by rw [v50w.trans v50r.symm]; exact (ti_rfl u10)
          refine go_iconst (pc := 71) (v := 1) (by decide) dX3_readProcedure_71 ?_
          refine gf_iadd (pc := 72) v50q (ti_c (v := 1) (a := 1) (by decide)) (by omega) (by omega) dX3_readProcedure_72 (fun v51 e52 => ?_)
          refine gi_put (pc := 73) (lo := 0) (hi := 500) hv5 e52 (fP_X3_19 _) rfl (Nat.le_of_ble_eq_true rfl) rfl rfl (by omega) (by omega) rfl rfl (by decide) (by decide) (by decide) (by decide) dX3_readProcedure_73 (fun h53 hv53 hv53e => ?_)
          refine go_aload_n (pc := 76) rfl dX3_readProcedure_76 ?_
          refine gi_getC (pc := 77) hv53 fL_X3_46 rfl (Nat.le_of_ble_eq_true rfl) rfl (by decide) dX3_readProcedure_77 (fun c54 hc54 fc54 => ?_)
          refine go_dup (pc := 80) rfl dX3_readProcedure_80 ?_
          refine gi_get (pc := 81) (lo := 0) (hi := 5) hv53 fL_X3_115 (by rcases hc54 with rfl | rfl <;> rfl) (Nat.le_of_ble_eq_true rfl) rfl (by rcases hc54 with rfl | rfl <;> rfl) dX3_readProcedure_81 (fun v55 v55l v55u v55w => ?_)
          have kk : v55.toInt ≤ 4 := by
            have e : Value.ref c28 = .ref c54 := fc28.symm.trans (by rw [hv53e] at fc54; exact fc54)
            cases e
            rw [v55w, hv53e]
            show (if c28 = 34 ∧ 1 = 2 then _ else h5.2.1 c28 1).toInt ≤ 4
            rw [if_neg (by omega), ← v29w]
            omega
          refine go_iconst (pc := 84) (v := 1) (by decide) dX3_readProcedure_84 ?_
          refine gf_iadd (pc := 85) (ti_rfl v55) (ti_c (v := 1) (a := 1) (by decide)) (by omega) (by omega) dX3_readProcedure_85 (fun v56 e57 => ?_)
          refine gi_put (pc := 86) (lo := 0) (hi := 5) hv53 e57 (fP_X3_115 _) (by rcases hc54 with rfl | rfl <;> rfl) (Nat.le_of_ble_eq_true rfl) rfl (by rcases hc54 with rfl | rfl <;> rfl) (by omega) (by omega) rfl rfl (by rcases hc54 with rfl | rfl <;> decide) (by rcases hc54 with rfl | rfl <;> decide) (by rcases hc54 with rfl | rfl <;> decide) (by rcases hc54 with rfl | rfl <;> decide) dX3_readProcedure_86 (fun h58 hv58 hv58e => ?_)
          have prz : PR h58 := by
            intro c e
            have e2 : Value.ref c54 = .ref c := fc54.symm.trans (by rw [hv58e] at e; exact e)
            cases e2
            rw [hv58e]
            show 1 ≤ (if c54 = c54 ∧ 1 = 1 then v56 else _).toInt
            rw [if_pos ⟨rfl, rfl⟩, show (v56 : Int32).toInt = (v55.toInt + 1) from e57]
            omega
          refine go_aload_n (pc := 89) rfl dX3_readProcedure_89 ?_
          refine go_iconst (pc := 90) (v := (-1)) (by decide) dX3_readProcedure_90 ?_
          refine go_iconst (pc := 91) (v := 0) (by decide) dX3_readProcedure_91 ?_
          refine go_invV (pc := 92) (sl := 0) (s_X3_openBlock l (d + 0) hv58 (-1) (by rw [show ((-1) : Int32).toInt = (-1) from (ti_c (v := (-1)) (a := (-1)) (by decide))]; omega) (by rw [show ((-1) : Int32).toInt = (-1) from (ti_c (v := (-1)) (a := (-1)) (by decide))]; omega) 0 (by rw [show (0 : Int32).toInt = 0 from (ti_c (v := 0) (a := 0) (by decide))]; omega) (by rw [show (0 : Int32).toInt = 0 from (ti_c (v := 0) (a := 0) (by decide))]; omega)) mL_X3_118 iM_X3_openBlock sM_X3_openBlock (hv58.sh rfl) rfl rfl rfl (Nat.le_of_ble_eq_true rfl) (show d + 0 + 2 + 1 ≤ d + 3 by omega) (show 8 + (3 + 11) + 40 * (d + 0 + 2) ≤ 40 * (d + 3) by omega) (g_c0 hv58.ln) (Nat.le_of_ble_eq_true rfl) dX3_readProcedure_92 ?_
          intro r h59 hq _
          obtain ⟨rfl, hv59, pt59⟩ := hq
          obtain ⟨u60, u60w⟩ : ∃ v : Int32, v = h59.2.1 34 2 := ⟨_, rfl⟩
          have u60e : (h59.2.1 34 2).toInt = u60.toInt := by rw [u60w]
          have u60l : 0 ≤ u60.toInt := by rw [u60w]; exact (hv59.2.1 34 2).1
          have u60u : u60.toInt ≤ 500 := by rw [u60w]; exact (hv59.2.1 34 2).2
          obtain ⟨u61, u61w⟩ : ∃ v : Int32, v = h59.2.1 34 3 := ⟨_, rfl⟩
          have u61e : (h59.2.1 34 3).toInt = u61.toInt := by rw [u61w]
          have u61l : -2147483648 ≤ u61.toInt := by rw [u61w]; exact (hv59.2.1 34 3).1
          have u61u : u61.toInt ≤ 2147483647 := by rw [u61w]; exact (hv59.2.1 34 3).2
          exact gi_vret (pc := 95) ⟨rfl, hv59, (fun _ => pt59 prz)⟩ hv59 dX3_readProcedure_95
        ·
          refine go_aload_n (pc := 54) rfl dX3_readProcedure_54 ?_
          refine go_iconst (pc := 55) (v := 3) (by decide) dX3_readProcedure_55 ?_
          refine go_aload_n (pc := 56) rfl dX3_readProcedure_56 ?_
          refine gi_get (pc := 57) (lo := 0) (hi := 500) hv5 fL_X3_19 rfl (Nat.le_of_ble_eq_true rfl) rfl rfl dX3_readProcedure_57 (fun v62 v62l v62u v62w => ?_)
          have v62r : u10 = h5.2.1 34 2 := u10w
          have v62q : TI v62 u10.toInt := by rw [v62w.trans v62r.symm]; exact (ti_rfl u10)
          have g63 : (0 : Int) ≤ (h5.2.1 34 2).toInt := (hv5.2.1 34 2).1
          have g64 : (h5.2.1 34 2).toInt ≤ 500 := (hv5.2.1 34 2).2
          have g65 : (-2147483648 : Int) ≤ (h5.2.1 34 3).toInt := (hv5.2.1 34 3).1
          have g66 : (h5.2.1 34 3).toInt ≤ 2147483647 := (hv5.2.1 34 3).2
          have g67 : (h5.2.1 34 2).toInt = u10.toInt := by rw [← (show u10 = h5.2.1 34 2 from u10w)] <;> exact (ti_rfl u10)
          have g68 : (h5.2.1 34 3).toInt = u11.toInt := by rw [← (show u11 = h5.2.1 34 3 from u11w)] <;> exact (ti_rfl u11)
          refine go_invV (pc := 60) (sl := 0) (s_X3_blame l (d + 1) hv5 3 (by rw [show (3 : Int32).toInt = 3 from (ti_c (v := 3) (a := 3) (by decide))]; omega) (by rw [show (3 : Int32).toInt = 3 from (ti_c (v := 3) (a := 3) (by decide))]; omega) v62 (by rw [show (v62 : Int32).toInt = u10.toInt from v62q]; omega) (by rw [show (v62 : Int32).toInt = u10.toInt from v62q]; omega)) mL_X3_101 iM_X3_blame sM_X3_blame (hv5.sh rfl) rfl rfl rfl (Nat.le_of_ble_eq_true rfl) (show d + 1 + 1 + 1 ≤ d + 3 by omega) (show 8 + (3 + 11) + 40 * (d + 1 + 1) ≤ 40 * (d + 3) by omega) (g_c0 hv5.ln) (Nat.le_of_ble_eq_true rfl) dX3_readProcedure_60 ?_
          intro r h69 hq _
          obtain ⟨rfl, hv69, f70, f71, f72, f73, pt69⟩ := hq
          try rw [show (3 : Int32).toInt = 3 from (ti_c (v := 3) (a := 3) (by decide))] at f70
          try rw [show (v62 : Int32).toInt = u10.toInt from v62q] at f70
          try rw [show (3 : Int32).toInt = 3 from (ti_c (v := 3) (a := 3) (by decide))] at f71
          try rw [show (v62 : Int32).toInt = u10.toInt from v62q] at f71
          try rw [show (3 : Int32).toInt = 3 from (ti_c (v := 3) (a := 3) (by decide))] at f72
          try rw [show (v62 : Int32).toInt = u10.toInt from v62q] at f72
          try rw [show (3 : Int32).toInt = 3 from (ti_c (v := 3) (a := 3) (by decide))] at f73
          try rw [show (v62 : Int32).toInt = u10.toInt from v62q] at f73
          obtain ⟨u74, u74w⟩ : ∃ v : Int32, v = h69.2.1 34 2 := ⟨_, rfl⟩
          have u74e : (h69.2.1 34 2).toInt = u74.toInt := by rw [u74w]
          have u74l : 0 ≤ u74.toInt := by rw [u74w]; exact (hv69.2.1 34 2).1
          have u74u : u74.toInt ≤ 500 := by rw [u74w]; exact (hv69.2.1 34 2).2
          obtain ⟨u75, u75w⟩ : ∃ v : Int32, v = h69.2.1 34 3 := ⟨_, rfl⟩
          have u75e : (h69.2.1 34 3).toInt = u75.toInt := by rw [u75w]
          have u75l : -2147483648 ≤ u75.toInt := by rw [u75w]; exact (hv69.2.1 34 3).1
          have u75u : u75.toInt ≤ 2147483647 := by rw [u75w]; exact (hv69.2.1 34 3).2
          refine go_goto (pc := 63) (tgt := 95) (by decide) dX3_readProcedure_63 ?_
          exact gi_vret (pc := 95) ⟨rfl, hv69, (fun q => absurd q f70)⟩ hv69 dX3_readProcedure_95
    ·
      refine go_aload_n (pc := 17) rfl dX3_readProcedure_17 ?_
      refine go_iconst (pc := 18) (v := 1) (by decide) dX3_readProcedure_18 ?_
      refine go_aload_n (pc := 19) rfl dX3_readProcedure_19 ?_
      refine gi_get (pc := 20) (lo := 0) (hi := 500) hv5 fL_X3_19 rfl (Nat.le_of_ble_eq_true rfl) rfl rfl dX3_readProcedure_20 (fun v76 v76l v76u v76w => ?_)
      have v76r : u10 = h5.2.1 34 2 := u10w
      have v76q : TI v76 u10.toInt := by rw [v76w.trans v76r.symm]; exact (ti_rfl u10)
      have g77 : (0 : Int) ≤ (h5.2.1 34 2).toInt := (hv5.2.1 34 2).1
      have g78 : (h5.2.1 34 2).toInt ≤ 500 := (hv5.2.1 34 2).2
      have g79 : (-2147483648 : Int) ≤ (h5.2.1 34 3).toInt := (hv5.2.1 34 3).1
      have g80 : (h5.2.1 34 3).toInt ≤ 2147483647 := (hv5.2.1 34 3).2
      have g81 : (h5.2.1 34 2).toInt = u10.toInt := by rw [← (show u10 = h5.2.1 34 2 from u10w)] <;> exact (ti_rfl u10)
      have g82 : (h5.2.1 34 3).toInt = u11.toInt := by rw [← (show u11 = h5.2.1 34 3 from u11w)] <;> exact (ti_rfl u11)
      refine go_invV (pc := 23) (sl := 0) (s_X3_blame l (d + 1) hv5 1 (by rw [show (1 : Int32).toInt = 1 from (ti_c (v := 1) (a := 1) (by decide))]; omega) (by rw [show (1 : Int32).toInt = 1 from (ti_c (v := 1) (a := 1) (by decide))]; omega) v76 (by rw [show (v76 : Int32).toInt = u10.toInt from v76q]; omega) (by rw [show (v76 : Int32).toInt = u10.toInt from v76q]; omega)) mL_X3_101 iM_X3_blame sM_X3_blame (hv5.sh rfl) rfl rfl rfl (Nat.le_of_ble_eq_true rfl) (show d + 1 + 1 + 1 ≤ d + 3 by omega) (show 8 + (3 + 11) + 40 * (d + 1 + 1) ≤ 40 * (d + 3) by omega) (g_c0 hv5.ln) (Nat.le_of_ble_eq_true rfl) dX3_readProcedure_23 ?_
      intro r h83 hq _
      obtain ⟨rfl, hv83, f84, f85, f86, f87, pt83⟩ := hq
      try rw [show (1 : Int32).toInt = 1 from (ti_c (v := 1) (a := 1) (by decide))] at f84
      try rw [show (v76 : Int32).toInt = u10.toInt from v76q] at f84
      try rw [show (1 : Int32).toInt = 1 from (ti_c (v := 1) (a := 1) (by decide))] at f85
      try rw [show (v76 : Int32).toInt = u10.toInt from v76q] at f85
      try rw [show (1 : Int32).toInt = 1 from (ti_c (v := 1) (a := 1) (by decide))] at f86
      try rw [show (v76 : Int32).toInt = u10.toInt from v76q] at f86
      try rw [show (1 : Int32).toInt = 1 from (ti_c (v := 1) (a := 1) (by decide))] at f87
      try rw [show (v76 : Int32).toInt = u10.toInt from v76q] at f87
      obtain ⟨u88, u88w⟩ : ∃ v : Int32, v = h83.2.1 34 2 := ⟨_, rfl⟩
      have u88e : (h83.2.1 34 2).toInt = u88.toInt := by rw [u88w]
      have u88l : 0 ≤ u88.toInt := by rw [u88w]; exact (hv83.2.1 34 2).1
      have u88u : u88.toInt ≤ 500 := by rw [u88w]; exact (hv83.2.1 34 2).2
      obtain ⟨u89, u89w⟩ : ∃ v : Int32, v = h83.2.1 34 3 := ⟨_, rfl⟩
      have u89e : (h83.2.1 34 3).toInt = u89.toInt := by rw [u89w]
      have u89l : -2147483648 ≤ u89.toInt := by rw [u89w]; exact (hv83.2.1 34 3).1
      have u89u : u89.toInt ≤ 2147483647 := by rw [u89w]; exact (hv83.2.1 34 3).2
      refine go_goto (pc := 26) (tgt := 95) (by decide) dX3_readProcedure_26 ?_
      exact gi_vret (pc := 95) ⟨rfl, hv83, (fun q => absurd q f84)⟩ hv83 dX3_readProcedure_95
set_option maxHeartbeats 4000000 in
set_option maxRecDepth 100000 in
theorem s_X3_start (l : Launch) (d : Nat) {P : PP} {h : HP} (hv : Iv P h) (a3 : Int32) (a3l : 0 ≤ a3.toInt) (a3u : a3.toInt ≤ 500) (c4 : Nat) (hc4 : c4 = 2 ∨ c4 = 18) : Mt l yX3_start cX3_start 4 none (d + 2) [.ref 34, .ref 1, .int a3, .ref c4] h 0 0 (fun r h' => r = none ∧ Iv P h') := by
  refine Mt_iv hv (by decide) (Nat.le_of_ble_eq_true rfl) ?_
  show Go l RX3 cX3_start 4 (g_rm (d + 2) 0 0) "start" none 117 0 0 (fun _ _ => True) (fun r h' => r = none ∧ Iv P h') 0 0 [(0, .ref 34), (1, .ref 1), (2, .int a3), (3, .ref c4)] [] h
  refine go_aload_n (pc := 0) rfl dX3_start_0 ?_
  refine go_aload_n (pc := 1) rfl dX3_start_1 ?_
  refine gi_putT (pc := 2) hv (fP_X3_9 _) dX3_start_2 (fun h1 hv1 hv1e => ?_)
  refine go_aload_n (pc := 5) rfl dX3_start_5 ?_
  refine go_iload_n (pc := 6) rfl dX3_start_6 ?_
  refine go_aload_n (pc := 7) rfl dX3_start_7 ?_
  refine go_alen (pc := 8) (v := 500) (hv1.sh rfl) (by decide) (by decide) dX3_start_8 ?_
  refine gf_min (pc := 9) (ti_rfl a3) (ti_c (v := 500) (a := 500) (by decide)) mm_L (show 1 ≤ d + 2 by omega) (show 21 ≤ 40 * (d + 2) by omega) (Nat.le_of_ble_eq_true rfl) (g_c0 hv1.ln) (Nat.le_of_ble_eq_true rfl) dX3_start_9 (fun v2 f3 f4 => ?_)
  refine gi_putN (pc := 12) hv1 (ti_rfl v2) (fP_X3_15 _) (by omega) (by omega) (by rw [hv1e]; rfl) dX3_start_12 (fun h5 hv5 hv5e => ?_)
  refine go_aload_n (pc := 15) rfl dX3_start_15 ?_
  refine go_iconst (pc := 16) (v := 0) (by decide) dX3_start_16 ?_
  refine gi_put (pc := 17) (lo := 0) (hi := 500) hv5 (ti_c (v := 0) (a := 0) (by decide)) (fP_X3_19 _) rfl (Nat.le_of_ble_eq_true rfl) rfl rfl (by omega) (by omega) rfl rfl (by decide) (by decide) (by decide) (by decide) dX3_start_17 (fun h6 hv6 hv6e => ?_)
  refine go_aload_n (pc := 20) rfl dX3_start_20 ?_
  refine go_iconst (pc := 21) (v := 0) (by decide) dX3_start_21 ?_
  refine gi_put (pc := 22) (lo := -2147483648) (hi := 2147483647) hv6 (ti_c (v := 0) (a := 0) (by decide)) (fP_X3_22 _) rfl (Nat.le_of_ble_eq_true rfl) rfl rfl (ti_ge (ti_c (v := 0) (a := 0) (by decide))) (ti_le2 (ti_c (v := 0) (a := 0) (by decide))) rfl rfl (by decide) (by decide) (by decide) (by decide) dX3_start_22 (fun h7 hv7 hv7e => ?_)
  refine go_aload_n (pc := 25) rfl dX3_start_25 ?_
  refine go_aload_n (pc := 26) rfl dX3_start_26 ?_
  refine gi_putC (pc := 27) hv7 hc4 (fP_X3_46 _) rfl (Nat.le_of_ble_eq_true rfl) rfl (fun _ => rfl) (fun _ => rfl) (by decide) (by decide) (by decide) (by decide) dX3_start_27 (fun h8 hv8 hv8e => ?_)
  refine go_aload_n (pc := 30) rfl dX3_start_30 ?_
  refine gi_getC (pc := 31) hv8 fL_X3_46 rfl (Nat.le_of_ble_eq_true rfl) rfl (by decide) dX3_start_31 (fun c9 hc9 fc9 => ?_)
  refine go_invV (pc := 34) (sl := 0) (s_X0_clear l (d + 0) hv8 c9 hc9) mL_X3_89 iM_X0_clear sM_X0_clear (hv8.sh (by rcases hc9 with rfl | rfl <;> rfl)) rfl rfl rfl (Nat.le_of_ble_eq_true rfl) (show d + 0 + 1 + 1 ≤ d + 2 by omega) (show 8 + (1 + 11) + 40 * (d + 0 + 1) ≤ 40 * (d + 2) by omega) (g_c0 hv8.ln) (Nat.le_of_ble_eq_true rfl) dX3_start_34 ?_
  intro r h10 hq _
  obtain ⟨rfl, hv10, f11, f12, f13⟩ := hq
  refine go_aload_n (pc := 37) rfl dX3_start_37 ?_
  refine gi_getF (pc := 38) (q := 36) hv10 fL_X3_28 rfl (Nat.le_of_ble_eq_true rfl) rfl (hv10.rf (by decide)) dX3_start_38 ?_
  refine go_iconst (pc := 41) (v := 0) (by decide) dX3_start_41 ?_
  refine gi_put (pc := 42) (lo := 0) (hi := 128) hv10 (ti_c (v := 0) (a := 0) (by decide)) (fP_X3_94 _) rfl (Nat.le_of_ble_eq_true rfl) rfl rfl (by omega) (by omega) rfl rfl (by decide) (by decide) (by decide) (by decide) dX3_start_42 (fun h14 hv14 hv14e => ?_)
  refine go_aload_n (pc := 45) rfl dX3_start_45 ?_
  refine go_iconst (pc := 46) (v := 0) (by decide) dX3_start_46 ?_
  refine gi_put (pc := 47) (lo := 0) (hi := 7) hv14 (ti_c (v := 0) (a := 0) (by decide)) (fP_X3_32 _) rfl (Nat.le_of_ble_eq_true rfl) rfl rfl (by omega) (by omega) rfl rfl (by decide) (by decide) (by decide) (by decide) dX3_start_47 (fun h15 hv15 hv15e => ?_)
  exact gi_vret (pc := 50) ⟨rfl, hv15⟩ hv15 dX3_start_50
set_option maxHeartbeats 4000000 in
set_option maxRecDepth 100000 in
theorem s_X3_finish (l : Launch) (d : Nat) {P : PP} {h : HP} (hv : Iv P h)  : Mt l yX3_finish cX3_finish 1 none (d + 17) [.ref 34] h 0 0 (fun r h' => r = none ∧ Iv P h') := by
  refine Mt_iv hv (by decide) (Nat.le_of_ble_eq_true rfl) ?_
  show Go l RX3 cX3_finish 1 (g_rm (d + 17) 0 0) "finish" none 117 0 0 (fun _ _ => True) (fun r h' => r = none ∧ Iv P h') 0 0 [(0, .ref 34)] [] h
  refine go_aload_n (pc := 0) rfl dX3_finish_0 ?_
  refine gi_get (pc := 1) (lo := -2147483648) (hi := 2147483647) hv fL_X3_22 rfl (Nat.le_of_ble_eq_true rfl) rfl rfl dX3_finish_1 (fun v1 v1l v1u v1w => ?_)
  refine gf_if_eq (pc := 4) (tgt := 8) (ti_rfl v1) (by decide) dX3_finish_4 (fun q2 => ?_) (fun q2 => ?_)
  ·
    refine go_aload_n (pc := 8) rfl dX3_finish_8 ?_
    refine gi_getC (pc := 9) hv fL_X3_46 rfl (Nat.le_of_ble_eq_true rfl) rfl (by decide) dX3_finish_9 (fun c3 hc3 fc3 => ?_)
    refine go_invV (pc := 12) (sl := 0) (s_X0_callsOnlyTold l (d + 15) hv c3 hc3) mL_X3_97 iM_X0_callsOnlyTold sM_X0_callsOnlyTold (hv.sh (by rcases hc3 with rfl | rfl <;> rfl)) rfl rfl rfl (Nat.le_of_ble_eq_true rfl) (show d + 15 + 1 + 1 ≤ d + 17 by omega) (show 8 + (3 + 11) + 40 * (d + 15 + 1) ≤ 40 * (d + 17) by omega) (g_c0 hv.ln) (Nat.le_of_ble_eq_true rfl) dX3_finish_12 ?_
    intro r h4 hq _
    obtain ⟨v5, rfl, v5l, v5u, rfl⟩ := hq
    refine gf_if_ne (pc := 15) (tgt := 28) (ti_rfl v5) (by decide) dX3_finish_15 (fun q6 => ?_) (fun q6 => ?_)
    ·
      refine go_aload_n (pc := 28) rfl dX3_finish_28 ?_
      refine gi_getF (pc := 29) (q := 48) hv fL_X3_55 rfl (Nat.le_of_ble_eq_true rfl) rfl (hv.rf (by decide)) dX3_finish_29 ?_
      refine go_aload_n (pc := 32) rfl dX3_finish_32 ?_
      refine gi_getC (pc := 33) hv fL_X3_46 rfl (Nat.le_of_ble_eq_true rfl) rfl (by decide) dX3_finish_33 (fun c7 hc7 fc7 => ?_)
      refine go_invV (pc := 36) (sl := 0) (s_X6_wire l (d + 0) hv c7 hc7) mL_X3_105 iM_X6_wire sM_X6_wire (hv.sh rfl) rfl rfl rfl (Nat.le_of_ble_eq_true rfl) (show d + 0 + 16 + 1 ≤ d + 17 by omega) (show 8 + (4 + 11) + 40 * (d + 0 + 16) ≤ 40 * (d + 17) by omega) (g_c0 hv.ln) (Nat.le_of_ble_eq_true rfl) dX3_finish_36 ?_
      intro r h8 hq _
      obtain ⟨rfl, hv8⟩ := hq
      refine go_aload_n (pc := 39) rfl dX3_finish_39 ?_
      refine gi_getC (pc := 40) hv8 fL_X3_46 rfl (Nat.le_of_ble_eq_true rfl) rfl (by decide) dX3_finish_40 (fun c9 hc9 fc9 => ?_)
      refine go_invV (pc := 43) (sl := 0) (s_X0_settleEnds l (d + 12) hv8 c9 hc9) mL_X3_109 iM_X0_settleEnds sM_X0_settleEnds (hv8.sh (by rcases hc9 with rfl | rfl <;> rfl)) rfl rfl rfl (Nat.le_of_ble_eq_true rfl) (show d + 12 + 4 + 1 ≤ d + 17 by omega) (show 8 + (6 + 11) + 40 * (d + 12 + 4) ≤ 40 * (d + 17) by omega) (g_c0 hv8.ln) (Nat.le_of_ble_eq_true rfl) dX3_finish_43 ?_
      intro r h10 hq _
      obtain ⟨rfl, hv10⟩ := hq
      refine go_aload_n (pc := 46) rfl dX3_finish_46 ?_
      refine gi_getC (pc := 47) hv10 fL_X3_46 rfl (Nat.le_of_ble_eq_true rfl) rfl (by decide) dX3_finish_47 (fun c11 hc11 fc11 => ?_)
      refine go_invV (pc := 50) (sl := 0) (s_X0_allMayEnd l (d + 15) hv10 c11 hc11) mL_X3_112 iM_X0_allMayEnd sM_X0_allMayEnd (hv10.sh (by rcases hc11 with rfl | rfl <;> rfl)) rfl rfl rfl (Nat.le_of_ble_eq_true rfl) (show d + 15 + 1 + 1 ≤ d + 17 by omega) (show 8 + (1 + 11) + 40 * (d + 15 + 1) ≤ 40 * (d + 17) by omega) (g_c0 hv10.ln) (Nat.le_of_ble_eq_true rfl) dX3_finish_50 ?_
      intro r h12 hq _
      obtain ⟨v13, rfl, v13l, v13u, rfl⟩ := hq
      refine gf_if_ne (pc := 53) (tgt := 66) (ti_rfl v13) (by decide) dX3_finish_53 (fun q14 => ?_) (fun q14 => ?_)
      ·
        exact gi_vret (pc := 66) ⟨rfl, hv10⟩ hv10 dX3_finish_66
      ·
        refine go_aload_n (pc := 56) rfl dX3_finish_56 ?_
        refine go_bipush (pc := 57) (v := 6) (by decide) dX3_finish_57 ?_
        refine go_aload_n (pc := 59) rfl dX3_finish_59 ?_
        refine gi_get (pc := 60) (lo := 0) (hi := 500) hv10 fL_X3_15 rfl (Nat.le_of_ble_eq_true rfl) rfl rfl dX3_finish_60 (fun v15 v15l v15u v15w => ?_)
        refine go_invV (pc := 63) (sl := 0) (s_X3_blame l (d + 15) hv10 6 (by rw [show (6 : Int32).toInt = 6 from (ti_c (v := 6) (a := 6) (by decide))]; omega) (by rw [show (6 : Int32).toInt = 6 from (ti_c (v := 6) (a := 6) (by decide))]; omega) v15 (by rw [show (v15 : Int32).toInt = v15.toInt from (ti_rfl v15)]; omega) (by rw [show (v15 : Int32).toInt = v15.toInt from (ti_rfl v15)]; omega)) mL_X3_101 iM_X3_blame sM_X3_blame (hv10.sh rfl) rfl rfl rfl (Nat.le_of_ble_eq_true rfl) (show d + 15 + 1 + 1 ≤ d + 17 by omega) (show 8 + (3 + 11) + 40 * (d + 15 + 1) ≤ 40 * (d + 17) by omega) (g_c0 hv10.ln) (Nat.le_of_ble_eq_true rfl) dX3_finish_63 ?_
        intro r h16 hq _
        obtain ⟨rfl, hv16, f17, f18, f19, f20, pt16⟩ := hq
        try rw [show (6 : Int32).toInt = 6 from (ti_c (v := 6) (a := 6) (by decide))] at f17
        try rw [show (6 : Int32).toInt = 6 from (ti_c (v := 6) (a := 6) (by decide))] at f18
        try rw [show (6 : Int32).toInt = 6 from (ti_c (v := 6) (a := 6) (by decide))] at f19
        try rw [show (6 : Int32).toInt = 6 from (ti_c (v := 6) (a := 6) (by decide))] at f20
        exact gi_vret (pc := 66) ⟨rfl, hv16⟩ hv16 dX3_finish_66
    ·
      refine go_aload_n (pc := 18) rfl dX3_finish_18 ?_
      refine go_iconst (pc := 19) (v := 5) (by decide) dX3_finish_19 ?_
      refine go_aload_n (pc := 20) rfl dX3_finish_20 ?_
      refine gi_get (pc := 21) (lo := 0) (hi := 500) hv fL_X3_15 rfl (Nat.le_of_ble_eq_true rfl) rfl rfl dX3_finish_21 (fun v21 v21l v21u v21w => ?_)
      refine go_invV (pc := 24) (sl := 0) (s_X3_blame l (d + 15) hv 5 (by rw [show (5 : Int32).toInt = 5 from (ti_c (v := 5) (a := 5) (by decide))]; omega) (by rw [show (5 : Int32).toInt = 5 from (ti_c (v := 5) (a := 5) (by decide))]; omega) v21 (by rw [show (v21 : Int32).toInt = v21.toInt from (ti_rfl v21)]; omega) (by rw [show (v21 : Int32).toInt = v21.toInt from (ti_rfl v21)]; omega)) mL_X3_101 iM_X3_blame sM_X3_blame (hv.sh rfl) rfl rfl rfl (Nat.le_of_ble_eq_true rfl) (show d + 15 + 1 + 1 ≤ d + 17 by omega) (show 8 + (3 + 11) + 40 * (d + 15 + 1) ≤ 40 * (d + 17) by omega) (g_c0 hv.ln) (Nat.le_of_ble_eq_true rfl) dX3_finish_24 ?_
      intro r h22 hq _
      obtain ⟨rfl, hv22, f23, f24, f25, f26, pt22⟩ := hq
      try rw [show (5 : Int32).toInt = 5 from (ti_c (v := 5) (a := 5) (by decide))] at f23
      try rw [show (5 : Int32).toInt = 5 from (ti_c (v := 5) (a := 5) (by decide))] at f24
      try rw [show (5 : Int32).toInt = 5 from (ti_c (v := 5) (a := 5) (by decide))] at f25
      try rw [show (5 : Int32).toInt = 5 from (ti_c (v := 5) (a := 5) (by decide))] at f26
      exact gi_vret (pc := 27) ⟨rfl, hv22⟩ hv22 dX3_finish_27
  ·
    exact gi_vret (pc := 7) ⟨rfl, hv⟩ hv dX3_finish_7
set_option maxHeartbeats 4000000 in
set_option maxRecDepth 100000 in
theorem s_X3_read (l : Launch) (d : Nat) {P : PP} {h : HP} (hv : Iv P h) (a3 : Int32) (a3l : 0 ≤ a3.toInt) (a3u : a3.toInt ≤ 500) (c4 : Nat) (hc4 : c4 = 2 ∨ c4 = 18) : Mt l yX3_read cX3_read 6 (some .int) (d + 18) [.ref 34, .ref 1, .int a3, .ref c4] h 0 0 (fun r h' => ∃ v : Int32, r = some (.int v) ∧ -2147483648 ≤ v.toInt ∧ v.toInt ≤ 2147483647 ∧ (∃ Q : PP, Iv Q h' ∧ RQ P Q)) := by
  refine Mt_iv hv (by decide) (Nat.le_of_ble_eq_true rfl) ?_
  show Go l RX3 cX3_read 6 (g_rm (d + 18) 0 0) "read" (some .int) 117 0 0 (fun _ _ => True) (fun r h' => ∃ v : Int32, r = some (.int v) ∧ -2147483648 ≤ v.toInt ∧ v.toInt ≤ 2147483647 ∧ (∃ Q : PP, Iv Q h' ∧ RQ P Q)) 0 0 [(0, .ref 34), (1, .ref 1), (2, .int a3), (3, .ref c4)] [] h
  have key : ∀ n : Nat, (∀ (l4 : Int32) (Qx : PP) (hx : HP), Iv Qx hx → RQ P Qx → 0 ≤ l4.toInt → l4.toInt ≤ 501 → ((hx.2.1 34 3).toInt = 0 → PR hx) → (0 : Int) ≤ (hx.2.1 34 2).toInt → (hx.2.1 34 2).toInt ≤ 500 → (-2147483648 : Int) ≤ (hx.2.1 34 3).toInt → (hx.2.1 34 3).toInt ≤ 2147483647 → (0 : Int) ≤ (hx.2.1 34 7).toInt → (hx.2.1 34 7).toInt ≤ 7 → (5 * (501 - l4.toInt) + 5 : Int) < n → Go l RX3 cX3_read 6 (g_rm (d + 18) 0 0) "read" (some .int) 117 0 0 (fun _ _ => True) (fun r h' => ∃ v : Int32, r = some (.int v) ∧ -2147483648 ≤ v.toInt ∧ v.toInt ≤ 2147483647 ∧ (∃ Q : PP, Iv Q h' ∧ RQ P Q)) 0 14 [(0, .ref 34), (4, .int l4)] [] hx) ∧ (∀ (l4 : Int32) (l5 : Int32) (Qx : PP) (hx : HP), Iv Qx hx → RQ P Qx → 0 ≤ l4.toInt → l4.toInt ≤ 500 → -1 ≤ l5.toInt → l5.toInt ≤ 255 → (PR hx) → (0 ≤ l5.toInt → (hx.2.1 34 2).toInt ≤ 499) → (0 : Int) ≤ (hx.2.1 34 2).toInt → (hx.2.1 34 2).toInt ≤ 500 → (-2147483648 : Int) ≤ (hx.2.1 34 3).toInt → (hx.2.1 34 3).toInt ≤ 2147483647 → (0 : Int) ≤ (hx.2.1 34 7).toInt → (hx.2.1 34 7).toInt ≤ 7 → (5 * (501 - l4.toInt) + 4 : Int) < n → Go l RX3 cX3_read 6 (g_rm (d + 18) 0 0) "read" (some .int) 117 0 0 (fun _ _ => True) (fun r h' => ∃ v : Int32, r = some (.int v) ∧ -2147483648 ≤ v.toInt ∧ v.toInt ≤ 2147483647 ∧ (∃ Q : PP, Iv Q h' ∧ RQ P Q)) 0 51 [(0, .ref 34), (4, .int l4), (5, .int l5)] [] hx) ∧ (∀ (l4 : Int32) (Qx : PP) (hx : HP), Iv Qx hx → RQ P Qx → 0 ≤ l4.toInt → l4.toInt ≤ 500 → ((hx.2.1 34 3).toInt = 0 → PR hx) → (0 : Int) ≤ (hx.2.1 34 2).toInt → (hx.2.1 34 2).toInt ≤ 500 → (-2147483648 : Int) ≤ (hx.2.1 34 3).toInt → (hx.2.1 34 3).toInt ≤ 2147483647 → (0 : Int) ≤ (hx.2.1 34 7).toInt → (hx.2.1 34 7).toInt ≤ 7 → (5 * (501 - l4.toInt) + 3 : Int) < n → Go l RX3 cX3_read 6 (g_rm (d + 18) 0 0) "read" (some .int) 117 0 0 (fun _ _ => True) (fun r h' => ∃ v : Int32, r = some (.int v) ∧ -2147483648 ≤ v.toInt ∧ v.toInt ≤ 2147483647 ∧ (∃ Q : PP, Iv Q h' ∧ RQ P Q)) 0 99 [(0, .ref 34), (4, .int l4)] [] hx) ∧ (∀  (Qx : PP) (hx : HP), Iv Qx hx → RQ P Qx → (0 : Int) ≤ (hx.2.1 34 2).toInt → (hx.2.1 34 2).toInt ≤ 500 → (-2147483648 : Int) ≤ (hx.2.1 34 3).toInt → (hx.2.1 34 3).toInt ≤ 2147483647 → (0 : Int) ≤ (hx.2.1 34 7).toInt → (hx.2.1 34 7).toInt ≤ 7 → (1 : Int) < n → Go l RX3 cX3_read 6 (g_rm (d + 18) 0 0) "read" (some .int) 117 0 0 (fun _ _ => True) (fun r h' => ∃ v : Int32, r = some (.int v) ∧ -2147483648 ≤ v.toInt ∧ v.toInt ≤ 2147483647 ∧ (∃ Q : PP, Iv Q h' ∧ RQ P Q)) 0 105 [(0, .ref 34)] [] hx) := by
    intro n
    induction n with
    | zero => exact ⟨(by intros; omega), (by intros; omega), (by intros; omega), (by intros; omega)⟩
    | succ n ih =>
      refine ⟨?_, ?_, ?_, ?_⟩
      ·
        intro l4 Qx hx hvx sqx l4l l4u x0 y0l y0u y1l y1u y2l y2u hm
        refine go_iload (pc := 14) rfl dX3_read_14 ?_
        refine go_sipush (pc := 16) (v := 500) (by decide) dX3_read_16 ?_
        refine gf_icmp_gt (pc := 19) (tgt := 105) (ti_rfl l4) (ti_c (v := 500) (a := 500) (by decide)) (by decide) dX3_read_19 (fun q1 => ?_) (fun q1 => ?_)
        ·
          have g2 : (0 : Int) ≤ (hx.2.1 34 2).toInt := (hvx.2.1 34 2).1
          have g3 : (hx.2.1 34 2).toInt ≤ 500 := (hvx.2.1 34 2).2
          have g4 : (-2147483648 : Int) ≤ (hx.2.1 34 3).toInt := (hvx.2.1 34 3).1
          have g5 : (hx.2.1 34 3).toInt ≤ 2147483647 := (hvx.2.1 34 3).2
          have g6 : (0 : Int) ≤ (hx.2.1 34 7).toInt := (hvx.2.1 34 7).1
          have g7 : (hx.2.1 34 7).toInt ≤ 7 := (hvx.2.1 34 7).2
          exact go_lv rfl (ih.2.2.2  _ hx hvx sqx (by omega) (by omega) (by omega) (by omega) (by omega) (by omega) (by omega))
        ·
          refine go_aload_n (pc := 22) rfl dX3_read_22 ?_
          refine gi_get (pc := 23) (lo := -2147483648) (hi := 2147483647) hvx fL_X3_22 rfl (Nat.le_of_ble_eq_true rfl) rfl rfl dX3_read_23 (fun v8 v8l v8u v8w => ?_)
          have g9 : (hx.2.1 34 3).toInt = v8.toInt := by rw [v8w]
          refine gf_if_ne (pc := 26) (tgt := 105) (ti_rfl v8) (by decide) dX3_read_26 (fun q10 => ?_) (fun q10 => ?_)
          ·
            have g11 : (0 : Int) ≤ (hx.2.1 34 2).toInt := (hvx.2.1 34 2).1
            have g12 : (hx.2.1 34 2).toInt ≤ 500 := (hvx.2.1 34 2).2
            have g13 : (-2147483648 : Int) ≤ (hx.2.1 34 3).toInt := (hvx.2.1 34 3).1
            have g14 : (hx.2.1 34 3).toInt ≤ 2147483647 := (hvx.2.1 34 3).2
            have g15 : (0 : Int) ≤ (hx.2.1 34 7).toInt := (hvx.2.1 34 7).1
            have g16 : (hx.2.1 34 7).toInt ≤ 7 := (hvx.2.1 34 7).2
            have g17 : (hx.2.1 34 3).toInt = v8.toInt := by rw [← (show v8 = hx.2.1 34 3 from v8w)] <;> exact (ti_rfl v8)
            exact go_lv rfl (ih.2.2.2  _ hx hvx sqx (by omega) (by omega) (by omega) (by omega) (by omega) (by omega) (by omega))
          ·
            have prx0 : PR hx := x0 (by rw [← v8w]; omega)
            refine go_aload_n (pc := 29) rfl dX3_read_29 ?_
            have g18 : (0 : Int) ≤ (hx.2.1 34 2).toInt := (hvx.2.1 34 2).1
            have g19 : (hx.2.1 34 2).toInt ≤ 500 := (hvx.2.1 34 2).2
            have g20 : (-2147483648 : Int) ≤ (hx.2.1 34 3).toInt := (hvx.2.1 34 3).1
            have g21 : (hx.2.1 34 3).toInt ≤ 2147483647 := (hvx.2.1 34 3).2
            have g22 : (0 : Int) ≤ (hx.2.1 34 7).toInt := (hvx.2.1 34 7).1
            have g23 : (hx.2.1 34 7).toInt ≤ 7 := (hvx.2.1 34 7).2
            have g24 : (hx.2.1 34 3).toInt = v8.toInt := by rw [← (show v8 = hx.2.1 34 3 from v8w)] <;> exact (ti_rfl v8)
            refine go_invV (pc := 30) (sl := 0) (s_X3_look l (d + 16) hvx ) mL_X3_66 iM_X3_look sM_X3_look (hvx.sh rfl) rfl rfl rfl (Nat.le_of_ble_eq_true rfl) (show d + 16 + 1 + 1 ≤ d + 18 by omega) (show 8 + (1 + 11) + 40 * (d + 16 + 1) ≤ 40 * (d + 18) by omega) (g_c0 hvx.ln) (Nat.le_of_ble_eq_true rfl) dX3_read_30 ?_
            intro r h25 hq _
            obtain ⟨v29, rfl, v29l, v29u, hv25, f26, f27, f28, pt25⟩ := hq
            obtain ⟨u30, u30w⟩ : ∃ v : Int32, v = h25.2.1 34 2 := ⟨_, rfl⟩
            have u30e : (h25.2.1 34 2).toInt = u30.toInt := by rw [u30w]
            have u30l : 0 ≤ u30.toInt := by rw [u30w]; exact (hv25.2.1 34 2).1
            have u30u : u30.toInt ≤ 500 := by rw [u30w]; exact (hv25.2.1 34 2).2
            obtain ⟨u31, u31w⟩ : ∃ v : Int32, v = h25.2.1 34 3 := ⟨_, rfl⟩
            have u31e : (h25.2.1 34 3).toInt = u31.toInt := by rw [u31w]
            have u31l : -2147483648 ≤ u31.toInt := by rw [u31w]; exact (hv25.2.1 34 3).1
            have u31u : u31.toInt ≤ 2147483647 := by rw [u31w]; exact (hv25.2.1 34 3).2
            obtain ⟨u32, u32w⟩ : ∃ v : Int32, v = h25.2.1 34 7 := ⟨_, rfl⟩
            have u32e : (h25.2.1 34 7).toInt = u32.toInt := by rw [u32w]
            have u32l : 0 ≤ u32.toInt := by rw [u32w]; exact (hv25.2.1 34 7).1
            have u32u : u32.toInt ≤ 7 := by rw [u32w]; exact (hv25.2.1 34 7).2
            have prl : PR h25 := pt25 prx0
            refine go_istore (pc := 33) (Nat.le_of_ble_eq_true rfl) dX3_read_33 (go_lv (lv2 := [(0, .ref 34), (4, .int l4), (5, .int v29)]) rfl ?_)
            refine go_aload_n (pc := 35) rfl dX3_read_35 ?_
            refine gi_get (pc := 36) (lo := 0) (hi := 7) hv25 fL_X3_32 rfl (Nat.le_of_ble_eq_true rfl) rfl rfl dX3_read_36 (fun v33 v33l v33u v33w => ?_)
            have v33r : u32 = h25.2.1 34 7 := u32w
            have v33q : TI v33 u32.toInt := by rw [v33w.trans v33r.symm]; exact (ti_rfl u32)
            refine gf_if_ne (pc := 39) (tgt := 51) v33q (by decide) dX3_read_39 (fun q34 => ?_) (fun q34 => ?_)
            ·
              have g35 : (0 : Int) ≤ (h25.2.1 34 2).toInt := (hv25.2.1 34 2).1
              have g36 : (h25.2.1 34 2).toInt ≤ 500 := (hv25.2.1 34 2).2
              have g37 : (-2147483648 : Int) ≤ (h25.2.1 34 3).toInt := (hv25.2.1 34 3).1
              have g38 : (h25.2.1 34 3).toInt ≤ 2147483647 := (hv25.2.1 34 3).2
              have g39 : (0 : Int) ≤ (h25.2.1 34 7).toInt := (hv25.2.1 34 7).1
              have g40 : (h25.2.1 34 7).toInt ≤ 7 := (hv25.2.1 34 7).2
              have g41 : (h25.2.1 34 2).toInt = u30.toInt := by rw [← (show u30 = h25.2.1 34 2 from u30w)] <;> exact (ti_rfl u30)
              have g42 : (h25.2.1 34 3).toInt = u31.toInt := by rw [← (show u31 = h25.2.1 34 3 from u31w)] <;> exact (ti_rfl u31)
              have g43 : (h25.2.1 34 7).toInt = u32.toInt := by rw [← (show u32 = h25.2.1 34 7 from u32w)] <;> exact (ti_rfl u32)
              exact go_lv rfl (ih.2.1 l4 v29 _ h25 hv25 sqx (by omega) (by omega) (by omega) (by omega) prl (by omega) (by omega) (by omega) (by omega) (by omega) (by omega) (by omega) (by omega))
            ·
              refine go_iload (pc := 42) rfl dX3_read_42 ?_
              refine go_iconst (pc := 44) (v := (-1)) (by decide) dX3_read_44 ?_
              refine gf_icmp_ne (pc := 45) (tgt := 51) (ti_rfl v29) (ti_c (v := (-1)) (a := (-1)) (by decide)) (by decide) dX3_read_45 (fun q44 => ?_) (fun q44 => ?_)
              ·
                have g45 : (0 : Int) ≤ (h25.2.1 34 2).toInt := (hv25.2.1 34 2).1
                have g46 : (h25.2.1 34 2).toInt ≤ 500 := (hv25.2.1 34 2).2
                have g47 : (-2147483648 : Int) ≤ (h25.2.1 34 3).toInt := (hv25.2.1 34 3).1
                have g48 : (h25.2.1 34 3).toInt ≤ 2147483647 := (hv25.2.1 34 3).2
                have g49 : (0 : Int) ≤ (h25.2.1 34 7).toInt := (hv25.2.1 34 7).1
                have g50 : (h25.2.1 34 7).toInt ≤ 7 := (hv25.2.1 34 7).2
                have g51 : (h25.2.1 34 2).toInt = u30.toInt := by rw [← (show u30 = h25.2.1 34 2 from u30w)] <;> exact (ti_rfl u30)
                have g52 : (h25.2.1 34 3).toInt = u31.toInt := by rw [← (show u31 = h25.2.1 34 3 from u31w)] <;> exact (ti_rfl u31)
                have g53 : (h25.2.1 34 7).toInt = u32.toInt := by rw [← (show u32 = h25.2.1 34 7 from u32w)] <;> exact (ti_rfl u32)
                exact go_lv rfl (ih.2.1 l4 v29 _ h25 hv25 sqx (by omega) (by omega) (by omega) (by omega) prl (by omega) (by omega) (by omega) (by omega) (by omega) (by omega) (by omega) (by omega))
              ·
                refine go_goto (pc := 48) (tgt := 105) (by decide) dX3_read_48 ?_
                have g54 : (0 : Int) ≤ (h25.2.1 34 2).toInt := (hv25.2.1 34 2).1
                have g55 : (h25.2.1 34 2).toInt ≤ 500 := (hv25.2.1 34 2).2
                have g56 : (-2147483648 : Int) ≤ (h25.2.1 34 3).toInt := (hv25.2.1 34 3).1
                have g57 : (h25.2.1 34 3).toInt ≤ 2147483647 := (hv25.2.1 34 3).2
                have g58 : (0 : Int) ≤ (h25.2.1 34 7).toInt := (hv25.2.1 34 7).1
                have g59 : (h25.2.1 34 7).toInt ≤ 7 := (hv25.2.1 34 7).2
                have g60 : (h25.2.1 34 2).toInt = u30.toInt := by rw [← (show u30 = h25.2.1 34 2 from u30w)] <;> exact (ti_rfl u30)
                have g61 : (h25.2.1 34 3).toInt = u31.toInt := by rw [← (show u31 = h25.2.1 34 3 from u31w)] <;> exact (ti_rfl u31)
                have g62 : (h25.2.1 34 7).toInt = u32.toInt := by rw [← (show u32 = h25.2.1 34 7 from u32w)] <;> exact (ti_rfl u32)
                exact go_lv rfl (ih.2.2.2  _ h25 hv25 sqx (by omega) (by omega) (by omega) (by omega) (by omega) (by omega) (by omega))
      ·
        intro l4 l5 Qx hx hvx sqx l4l l4u l5l l5u x0 x1 y0l y0u y1l y1u y2l y2u hm
        have prl := x0
        refine go_aload_n (pc := 51) rfl dX3_read_51 ?_
        refine gi_get (pc := 52) (lo := 0) (hi := 7) hvx fL_X3_32 rfl (Nat.le_of_ble_eq_true rfl) rfl rfl dX3_read_52 (fun v63 v63l v63u v63w => ?_)
        have g64 : (hx.2.1 34 7).toInt = v63.toInt := by rw [v63w]
        refine gf_if_ne (pc := 55) (tgt := 65) (ti_rfl v63) (by decide) dX3_read_55 (fun q65 => ?_) (fun q65 => ?_)
        ·
          refine go_iload (pc := 65) rfl dX3_read_65 ?_
          refine go_bipush (pc := 67) (v := 125) (by decide) dX3_read_67 ?_
          refine gf_icmp_ne (pc := 69) (tgt := 79) (ti_rfl l5) (ti_c (v := 125) (a := 125) (by decide)) (by decide) dX3_read_69 (fun q66 => ?_) (fun q66 => ?_)
          ·
            refine go_iload (pc := 79) rfl dX3_read_79 ?_
            refine go_bipush (pc := 81) (v := 37) (by decide) dX3_read_81 ?_
            refine gf_icmp_ne (pc := 83) (tgt := 93) (ti_rfl l5) (ti_c (v := 37) (a := 37) (by decide)) (by decide) dX3_read_83 (fun q67 => ?_) (fun q67 => ?_)
            ·
              refine go_aload_n (pc := 93) rfl dX3_read_93 ?_
              refine go_iload (pc := 94) rfl dX3_read_94 ?_
              refine go_invV (pc := 96) (sl := 0) (s_X3_readStatement l (d + 11) hvx l5 (by rw [show (l5 : Int32).toInt = l5.toInt from (ti_rfl l5)]; omega) (by rw [show (l5 : Int32).toInt = l5.toInt from (ti_rfl l5)]; omega) (by omega) (by omega)) mL_X3_76 iM_X3_readStatement sM_X3_readStatement (hvx.sh rfl) rfl rfl rfl (Nat.le_of_ble_eq_true rfl) (show d + 11 + 6 + 1 ≤ d + 18 by omega) (show 8 + (5 + 11) + 40 * (d + 11 + 6) ≤ 40 * (d + 18) by omega) (g_c0 hvx.ln) (Nat.le_of_ble_eq_true rfl) dX3_read_96 ?_
              intro r h68 hq _
              obtain ⟨rfl, ⟨Q69, hv68, r70, r71, r72, r73⟩, pt68⟩ := hq
              have r70 : (0 : Int) = 0 := r70
              obtain ⟨u74, u74w⟩ : ∃ v : Int32, v = h68.2.1 34 2 := ⟨_, rfl⟩
              have u74e : (h68.2.1 34 2).toInt = u74.toInt := by rw [u74w]
              have u74l : 0 ≤ u74.toInt := by rw [u74w]; exact (hv68.2.1 34 2).1
              have u74u : u74.toInt ≤ 500 := by rw [u74w]; exact (hv68.2.1 34 2).2
              obtain ⟨u75, u75w⟩ : ∃ v : Int32, v = h68.2.1 34 3 := ⟨_, rfl⟩
              have u75e : (h68.2.1 34 3).toInt = u75.toInt := by rw [u75w]
              have u75l : -2147483648 ≤ u75.toInt := by rw [u75w]; exact (hv68.2.1 34 3).1
              have u75u : u75.toInt ≤ 2147483647 := by rw [u75w]; exact (hv68.2.1 34 3).2
              obtain ⟨u76, u76w⟩ : ∃ v : Int32, v = h68.2.1 34 7 := ⟨_, rfl⟩
              have u76e : (h68.2.1 34 7).toInt = u76.toInt := by rw [u76w]
              have u76l : 0 ≤ u76.toInt := by rw [u76w]; exact (hv68.2.1 34 7).1
              have u76u : u76.toInt ≤ 7 := by rw [u76w]; exact (hv68.2.1 34 7).2
              have g77 : (0 : Int) ≤ (h68.2.1 34 2).toInt := (hv68.2.1 34 2).1
              have g78 : (h68.2.1 34 2).toInt ≤ 500 := (hv68.2.1 34 2).2
              have g79 : (-2147483648 : Int) ≤ (h68.2.1 34 3).toInt := (hv68.2.1 34 3).1
              have g80 : (h68.2.1 34 3).toInt ≤ 2147483647 := (hv68.2.1 34 3).2
              have g81 : (0 : Int) ≤ (h68.2.1 34 7).toInt := (hv68.2.1 34 7).1
              have g82 : (h68.2.1 34 7).toInt ≤ 7 := (hv68.2.1 34 7).2
              have g83 : (h68.2.1 34 2).toInt = u74.toInt := by rw [← (show u74 = h68.2.1 34 2 from u74w)] <;> exact (ti_rfl u74)
              have g84 : (h68.2.1 34 3).toInt = u75.toInt := by rw [← (show u75 = h68.2.1 34 3 from u75w)] <;> exact (ti_rfl u75)
              have g85 : (h68.2.1 34 7).toInt = u76.toInt := by rw [← (show u76 = h68.2.1 34 7 from u76w)] <;> exact (ti_rfl u76)
              exact go_lv rfl (ih.2.2.1 l4 _ h68 hv68 (RQ.trans sqx ⟨r71, r72, r73⟩) (by omega) (by omega) (fun _ => pt68 prl) (by omega) (by omega) (by omega) (by omega) (by omega) (by omega) (by omega))
            ·
              refine go_aload_n (pc := 86) rfl dX3_read_86 ?_
              refine go_invV (pc := 87) (sl := 0) (s_X3_readTry l (d + 14) hvx (by omega) (by omega)) mL_X3_73 iM_X3_readTry sM_X3_readTry (hvx.sh rfl) rfl rfl rfl (Nat.le_of_ble_eq_true rfl) (show d + 14 + 3 + 1 ≤ d + 18 by omega) (show 8 + (2 + 11) + 40 * (d + 14 + 3) ≤ 40 * (d + 18) by omega) (g_c0 hvx.ln) (Nat.le_of_ble_eq_true rfl) dX3_read_87 ?_
              intro r h86 hq _
              obtain ⟨rfl, hv86, pt86⟩ := hq
              obtain ⟨u87, u87w⟩ : ∃ v : Int32, v = h86.2.1 34 2 := ⟨_, rfl⟩
              have u87e : (h86.2.1 34 2).toInt = u87.toInt := by rw [u87w]
              have u87l : 0 ≤ u87.toInt := by rw [u87w]; exact (hv86.2.1 34 2).1
              have u87u : u87.toInt ≤ 500 := by rw [u87w]; exact (hv86.2.1 34 2).2
              obtain ⟨u88, u88w⟩ : ∃ v : Int32, v = h86.2.1 34 3 := ⟨_, rfl⟩
              have u88e : (h86.2.1 34 3).toInt = u88.toInt := by rw [u88w]
              have u88l : -2147483648 ≤ u88.toInt := by rw [u88w]; exact (hv86.2.1 34 3).1
              have u88u : u88.toInt ≤ 2147483647 := by rw [u88w]; exact (hv86.2.1 34 3).2
              obtain ⟨u89, u89w⟩ : ∃ v : Int32, v = h86.2.1 34 7 := ⟨_, rfl⟩
              have u89e : (h86.2.1 34 7).toInt = u89.toInt := by rw [u89w]
              have u89l : 0 ≤ u89.toInt := by rw [u89w]; exact (hv86.2.1 34 7).1
              have u89u : u89.toInt ≤ 7 := by rw [u89w]; exact (hv86.2.1 34 7).2
              refine go_goto (pc := 90) (tgt := 99) (by decide) dX3_read_90 ?_
              have g90 : (0 : Int) ≤ (h86.2.1 34 2).toInt := (hv86.2.1 34 2).1
              have g91 : (h86.2.1 34 2).toInt ≤ 500 := (hv86.2.1 34 2).2
              have g92 : (-2147483648 : Int) ≤ (h86.2.1 34 3).toInt := (hv86.2.1 34 3).1
              have g93 : (h86.2.1 34 3).toInt ≤ 2147483647 := (hv86.2.1 34 3).2
              have g94 : (0 : Int) ≤ (h86.2.1 34 7).toInt := (hv86.2.1 34 7).1
              have g95 : (h86.2.1 34 7).toInt ≤ 7 := (hv86.2.1 34 7).2
              have g96 : (h86.2.1 34 2).toInt = u87.toInt := by rw [← (show u87 = h86.2.1 34 2 from u87w)] <;> exact (ti_rfl u87)
              have g97 : (h86.2.1 34 3).toInt = u88.toInt := by rw [← (show u88 = h86.2.1 34 3 from u88w)] <;> exact (ti_rfl u88)
              have g98 : (h86.2.1 34 7).toInt = u89.toInt := by rw [← (show u89 = h86.2.1 34 7 from u89w)] <;> exact (ti_rfl u89)
              exact go_lv rfl (ih.2.2.1 l4 _ h86 hv86 sqx (by omega) (by omega) (fun _ => pt86 prl) (by omega) (by omega) (by omega) (by omega) (by omega) (by omega) (by omega))
          ·
            refine go_aload_n (pc := 72) rfl dX3_read_72 ?_
            refine go_invV (pc := 73) (sl := 0) (s_X3_closeBlock l (d + 13) hvx (by omega) (by omega) prl) mL_X3_70 iM_X3_closeBlock sM_X3_closeBlock (hvx.sh rfl) rfl rfl rfl (Nat.le_of_ble_eq_true rfl) (show d + 13 + 4 + 1 ≤ d + 18 by omega) (show 8 + (2 + 11) + 40 * (d + 13 + 4) ≤ 40 * (d + 18) by omega) (g_c0 hvx.ln) (Nat.le_of_ble_eq_true rfl) dX3_read_73 ?_
            intro r h99 hq _
            obtain ⟨rfl, hv99, pt99⟩ := hq
            obtain ⟨u100, u100w⟩ : ∃ v : Int32, v = h99.2.1 34 2 := ⟨_, rfl⟩
            have u100e : (h99.2.1 34 2).toInt = u100.toInt := by rw [u100w]
            have u100l : 0 ≤ u100.toInt := by rw [u100w]; exact (hv99.2.1 34 2).1
            have u100u : u100.toInt ≤ 500 := by rw [u100w]; exact (hv99.2.1 34 2).2
            obtain ⟨u101, u101w⟩ : ∃ v : Int32, v = h99.2.1 34 3 := ⟨_, rfl⟩
            have u101e : (h99.2.1 34 3).toInt = u101.toInt := by rw [u101w]
            have u101l : -2147483648 ≤ u101.toInt := by rw [u101w]; exact (hv99.2.1 34 3).1
            have u101u : u101.toInt ≤ 2147483647 := by rw [u101w]; exact (hv99.2.1 34 3).2
            obtain ⟨u102, u102w⟩ : ∃ v : Int32, v = h99.2.1 34 7 := ⟨_, rfl⟩
            have u102e : (h99.2.1 34 7).toInt = u102.toInt := by rw [u102w]
            have u102l : 0 ≤ u102.toInt := by rw [u102w]; exact (hv99.2.1 34 7).1
            have u102u : u102.toInt ≤ 7 := by rw [u102w]; exact (hv99.2.1 34 7).2
            refine go_goto (pc := 76) (tgt := 99) (by decide) dX3_read_76 ?_
            have g103 : (0 : Int) ≤ (h99.2.1 34 2).toInt := (hv99.2.1 34 2).1
            have g104 : (h99.2.1 34 2).toInt ≤ 500 := (hv99.2.1 34 2).2
            have g105 : (-2147483648 : Int) ≤ (h99.2.1 34 3).toInt := (hv99.2.1 34 3).1
            have g106 : (h99.2.1 34 3).toInt ≤ 2147483647 := (hv99.2.1 34 3).2
            have g107 : (0 : Int) ≤ (h99.2.1 34 7).toInt := (hv99.2.1 34 7).1
            have g108 : (h99.2.1 34 7).toInt ≤ 7 := (hv99.2.1 34 7).2
            have g109 : (h99.2.1 34 2).toInt = u100.toInt := by rw [← (show u100 = h99.2.1 34 2 from u100w)] <;> exact (ti_rfl u100)
            have g110 : (h99.2.1 34 3).toInt = u101.toInt := by rw [← (show u101 = h99.2.1 34 3 from u101w)] <;> exact (ti_rfl u101)
            have g111 : (h99.2.1 34 7).toInt = u102.toInt := by rw [← (show u102 = h99.2.1 34 7 from u102w)] <;> exact (ti_rfl u102)
            exact go_lv rfl (ih.2.2.1 l4 _ h99 hv99 sqx (by omega) (by omega) (fun _ => pt99 prl) (by omega) (by omega) (by omega) (by omega) (by omega) (by omega) (by omega))
        ·
          refine go_aload_n (pc := 58) rfl dX3_read_58 ?_
          have g112 : (0 : Int) ≤ (hx.2.1 34 2).toInt := (hvx.2.1 34 2).1
          have g113 : (hx.2.1 34 2).toInt ≤ 500 := (hvx.2.1 34 2).2
          have g114 : (-2147483648 : Int) ≤ (hx.2.1 34 3).toInt := (hvx.2.1 34 3).1
          have g115 : (hx.2.1 34 3).toInt ≤ 2147483647 := (hvx.2.1 34 3).2
          have g116 : (0 : Int) ≤ (hx.2.1 34 7).toInt := (hvx.2.1 34 7).1
          have g117 : (hx.2.1 34 7).toInt ≤ 7 := (hvx.2.1 34 7).2
          have g118 : (hx.2.1 34 7).toInt = v63.toInt := by rw [← (show v63 = hx.2.1 34 7 from v63w)] <;> exact (ti_rfl v63)
          refine go_invV (pc := 59) (sl := 0) (s_X3_readProcedure l (d + 14) hvx ) mL_X3_63 iM_X3_readProcedure sM_X3_readProcedure (hvx.sh rfl) rfl rfl rfl (Nat.le_of_ble_eq_true rfl) (show d + 14 + 3 + 1 ≤ d + 18 by omega) (show 8 + (2 + 11) + 40 * (d + 14 + 3) ≤ 40 * (d + 18) by omega) (g_c0 hvx.ln) (Nat.le_of_ble_eq_true rfl) dX3_read_59 ?_
          intro r h119 hq _
          obtain ⟨rfl, hv119, f120⟩ := hq
          obtain ⟨u121, u121w⟩ : ∃ v : Int32, v = h119.2.1 34 2 := ⟨_, rfl⟩
          have u121e : (h119.2.1 34 2).toInt = u121.toInt := by rw [u121w]
          have u121l : 0 ≤ u121.toInt := by rw [u121w]; exact (hv119.2.1 34 2).1
          have u121u : u121.toInt ≤ 500 := by rw [u121w]; exact (hv119.2.1 34 2).2
          obtain ⟨u122, u122w⟩ : ∃ v : Int32, v = h119.2.1 34 3 := ⟨_, rfl⟩
          have u122e : (h119.2.1 34 3).toInt = u122.toInt := by rw [u122w]
          have u122l : -2147483648 ≤ u122.toInt := by rw [u122w]; exact (hv119.2.1 34 3).1
          have u122u : u122.toInt ≤ 2147483647 := by rw [u122w]; exact (hv119.2.1 34 3).2
          obtain ⟨u123, u123w⟩ : ∃ v : Int32, v = h119.2.1 34 7 := ⟨_, rfl⟩
          have u123e : (h119.2.1 34 7).toInt = u123.toInt := by rw [u123w]
          have u123l : 0 ≤ u123.toInt := by rw [u123w]; exact (hv119.2.1 34 7).1
          have u123u : u123.toInt ≤ 7 := by rw [u123w]; exact (hv119.2.1 34 7).2
          refine go_goto (pc := 62) (tgt := 99) (by decide) dX3_read_62 ?_
          have g124 : (0 : Int) ≤ (h119.2.1 34 2).toInt := (hv119.2.1 34 2).1
          have g125 : (h119.2.1 34 2).toInt ≤ 500 := (hv119.2.1 34 2).2
          have g126 : (-2147483648 : Int) ≤ (h119.2.1 34 3).toInt := (hv119.2.1 34 3).1
          have g127 : (h119.2.1 34 3).toInt ≤ 2147483647 := (hv119.2.1 34 3).2
          have g128 : (0 : Int) ≤ (h119.2.1 34 7).toInt := (hv119.2.1 34 7).1
          have g129 : (h119.2.1 34 7).toInt ≤ 7 := (hv119.2.1 34 7).2
          have g130 : (h119.2.1 34 2).toInt = u121.toInt := by rw [← (show u121 = h119.2.1 34 2 from u121w)] <;> exact (ti_rfl u121)
          have g131 : (h119.2.1 34 3).toInt = u122.toInt := by rw [← (show u122 = h119.2.1 34 3 from u122w)] <;> exact (ti_rfl u122)
          have g132 : (h119.2.1 34 7).toInt = u123.toInt := by rw [← (show u123 = h119.2.1 34 7 from u123w)] <;> exact (ti_rfl u123)
          exact go_lv rfl (ih.2.2.1 l4 _ h119 hv119 sqx (by omega) (by omega) f120 (by omega) (by omega) (by omega) (by omega) (by omega) (by omega) (by omega))
      ·
        intro l4 Qx hx hvx sqx l4l l4u x0 y0l y0u y1l y1u y2l y2u hm
        refine gf_iinc (pc := 99) (Nat.le_of_ble_eq_true rfl) rfl (ti_rfl l4) (ti_c (by decide)) (by omega) (by omega) dX3_read_99 (fun v133 e134 => ?_)
        refine go_lv (lv2 := [(0, .ref 34), (4, .int v133)]) rfl ?_
        refine go_goto (pc := 102) (tgt := 14) (by decide) dX3_read_102 ?_
        have z135 : (v133 : Int32).toInt = (l4.toInt + 1) := e134
        have g136 : (0 : Int) ≤ (hx.2.1 34 2).toInt := (hvx.2.1 34 2).1
        have g137 : (hx.2.1 34 2).toInt ≤ 500 := (hvx.2.1 34 2).2
        have g138 : (-2147483648 : Int) ≤ (hx.2.1 34 3).toInt := (hvx.2.1 34 3).1
        have g139 : (hx.2.1 34 3).toInt ≤ 2147483647 := (hvx.2.1 34 3).2
        have g140 : (0 : Int) ≤ (hx.2.1 34 7).toInt := (hvx.2.1 34 7).1
        have g141 : (hx.2.1 34 7).toInt ≤ 7 := (hvx.2.1 34 7).2
        exact go_lv rfl (ih.1 v133 _ hx hvx sqx (by omega) (by omega) x0 (by omega) (by omega) (by omega) (by omega) (by omega) (by omega) (by omega))
      ·
        intro Qx hx hvx sqx y0l y0u y1l y1u y2l y2u hm
        refine go_aload_n (pc := 105) rfl dX3_read_105 ?_
        refine go_invV (pc := 106) (sl := 0) (s_X3_finish l (d + 0) hvx ) mL_X3_80 iM_X3_finish sM_X3_finish (hvx.sh rfl) rfl rfl rfl (Nat.le_of_ble_eq_true rfl) (show d + 0 + 17 + 1 ≤ d + 18 by omega) (show 8 + (1 + 11) + 40 * (d + 0 + 17) ≤ 40 * (d + 18) by omega) (g_c0 hvx.ln) (Nat.le_of_ble_eq_true rfl) dX3_read_106 ?_
        intro r h142 hq _
        obtain ⟨rfl, hv142⟩ := hq
        obtain ⟨u143, u143w⟩ : ∃ v : Int32, v = h142.2.1 34 2 := ⟨_, rfl⟩
        have u143e : (h142.2.1 34 2).toInt = u143.toInt := by rw [u143w]
        have u143l : 0 ≤ u143.toInt := by rw [u143w]; exact (hv142.2.1 34 2).1
        have u143u : u143.toInt ≤ 500 := by rw [u143w]; exact (hv142.2.1 34 2).2
        obtain ⟨u144, u144w⟩ : ∃ v : Int32, v = h142.2.1 34 3 := ⟨_, rfl⟩
        have u144e : (h142.2.1 34 3).toInt = u144.toInt := by rw [u144w]
        have u144l : -2147483648 ≤ u144.toInt := by rw [u144w]; exact (hv142.2.1 34 3).1
        have u144u : u144.toInt ≤ 2147483647 := by rw [u144w]; exact (hv142.2.1 34 3).2
        obtain ⟨u145, u145w⟩ : ∃ v : Int32, v = h142.2.1 34 7 := ⟨_, rfl⟩
        have u145e : (h142.2.1 34 7).toInt = u145.toInt := by rw [u145w]
        have u145l : 0 ≤ u145.toInt := by rw [u145w]; exact (hv142.2.1 34 7).1
        have u145u : u145.toInt ≤ 7 := by rw [u145w]; exact (hv142.2.1 34 7).2
        refine go_aload_n (pc := 109) rfl dX3_read_109 ?_
        refine gi_get (pc := 110) (lo := -2147483648) (hi := 2147483647) hv142 fL_X3_22 rfl (Nat.le_of_ble_eq_true rfl) rfl rfl dX3_read_110 (fun v146 v146l v146u v146w => ?_)
        have v146r : u144 = h142.2.1 34 3 := u144w
        have v146q : TI v146 u144.toInt := by rw [v146w.trans v146r.symm]; exact (ti_rfl u144)
        exact gi_iret (pc := 113) v146q ⟨_, rfl, (ti_lo _), (ti_hi _), ⟨_, hv142, sqx⟩⟩ hv142 dX3_read_113
  refine go_aload_n (pc := 0) rfl dX3_read_0 ?_
  refine go_aload_n (pc := 1) rfl dX3_read_1 ?_
  refine go_iload_n (pc := 2) rfl dX3_read_2 ?_
  refine go_aload_n (pc := 3) rfl dX3_read_3 ?_
  refine go_invV (pc := 4) (sl := 0) (s_X3_start l (d + 15) hv a3 (by rw [show (a3 : Int32).toInt = a3.toInt from (ti_rfl a3)]; omega) (by rw [show (a3 : Int32).toInt = a3.toInt from (ti_rfl a3)]; omega) c4 hc4) mL_X3_59 iM_X3_start sM_X3_start (hv.sh rfl) rfl rfl rfl (Nat.le_of_ble_eq_true rfl) (show d + 15 + 2 + 1 ≤ d + 18 by omega) (show 8 + (4 + 11) + 40 * (d + 15 + 2) ≤ 40 * (d + 18) by omega) (g_c0 hv.ln) (Nat.le_of_ble_eq_true rfl) dX3_read_4 ?_
  intro r h147 hq _
  obtain ⟨rfl, hv147⟩ := hq
  obtain ⟨u148, u148w⟩ : ∃ v : Int32, v = h147.2.1 34 2 := ⟨_, rfl⟩
  have u148e : (h147.2.1 34 2).toInt = u148.toInt := by rw [u148w]
  have u148l : 0 ≤ u148.toInt := by rw [u148w]; exact (hv147.2.1 34 2).1
  have u148u : u148.toInt ≤ 500 := by rw [u148w]; exact (hv147.2.1 34 2).2
  obtain ⟨u149, u149w⟩ : ∃ v : Int32, v = h147.2.1 34 3 := ⟨_, rfl⟩
  have u149e : (h147.2.1 34 3).toInt = u149.toInt := by rw [u149w]
  have u149l : -2147483648 ≤ u149.toInt := by rw [u149w]; exact (hv147.2.1 34 3).1
  have u149u : u149.toInt ≤ 2147483647 := by rw [u149w]; exact (hv147.2.1 34 3).2
  obtain ⟨u150, u150w⟩ : ∃ v : Int32, v = h147.2.1 34 7 := ⟨_, rfl⟩
  have u150e : (h147.2.1 34 7).toInt = u150.toInt := by rw [u150w]
  have u150l : 0 ≤ u150.toInt := by rw [u150w]; exact (hv147.2.1 34 7).1
  have u150u : u150.toInt ≤ 7 := by rw [u150w]; exact (hv147.2.1 34 7).2
  refine go_aload_n (pc := 7) rfl dX3_read_7 ?_
  have g151 : (0 : Int) ≤ (h147.2.1 34 2).toInt := (hv147.2.1 34 2).1
  have g152 : (h147.2.1 34 2).toInt ≤ 500 := (hv147.2.1 34 2).2
  have g153 : (-2147483648 : Int) ≤ (h147.2.1 34 3).toInt := (hv147.2.1 34 3).1
  have g154 : (h147.2.1 34 3).toInt ≤ 2147483647 := (hv147.2.1 34 3).2
  have g155 : (0 : Int) ≤ (h147.2.1 34 7).toInt := (hv147.2.1 34 7).1
  have g156 : (h147.2.1 34 7).toInt ≤ 7 := (hv147.2.1 34 7).2
  have g157 : (h147.2.1 34 2).toInt = u148.toInt := by rw [← (show u148 = h147.2.1 34 2 from u148w)] <;> exact (ti_rfl u148)
  have g158 : (h147.2.1 34 3).toInt = u149.toInt := by rw [← (show u149 = h147.2.1 34 3 from u149w)] <;> exact (ti_rfl u149)
  have g159 : (h147.2.1 34 7).toInt = u150.toInt := by rw [← (show u150 = h147.2.1 34 7 from u150w)] <;> exact (ti_rfl u150)
  refine go_invV (pc := 8) (sl := 0) (s_X3_readProcedure l (d + 14) hv147 ) mL_X3_63 iM_X3_readProcedure sM_X3_readProcedure (hv147.sh rfl) rfl rfl rfl (Nat.le_of_ble_eq_true rfl) (show d + 14 + 3 + 1 ≤ d + 18 by omega) (show 8 + (2 + 11) + 40 * (d + 14 + 3) ≤ 40 * (d + 18) by omega) (g_c0 hv147.ln) (Nat.le_of_ble_eq_true rfl) dX3_read_8 ?_
  intro r h160 hq _
  obtain ⟨rfl, hv160, f161⟩ := hq
  obtain ⟨u162, u162w⟩ : ∃ v : Int32, v = h160.2.1 34 2 := ⟨_, rfl⟩
  have u162e : (h160.2.1 34 2).toInt = u162.toInt := by rw [u162w]
  have u162l : 0 ≤ u162.toInt := by rw [u162w]; exact (hv160.2.1 34 2).1
  have u162u : u162.toInt ≤ 500 := by rw [u162w]; exact (hv160.2.1 34 2).2
  obtain ⟨u163, u163w⟩ : ∃ v : Int32, v = h160.2.1 34 3 := ⟨_, rfl⟩
  have u163e : (h160.2.1 34 3).toInt = u163.toInt := by rw [u163w]
  have u163l : -2147483648 ≤ u163.toInt := by rw [u163w]; exact (hv160.2.1 34 3).1
  have u163u : u163.toInt ≤ 2147483647 := by rw [u163w]; exact (hv160.2.1 34 3).2
  obtain ⟨u164, u164w⟩ : ∃ v : Int32, v = h160.2.1 34 7 := ⟨_, rfl⟩
  have u164e : (h160.2.1 34 7).toInt = u164.toInt := by rw [u164w]
  have u164l : 0 ≤ u164.toInt := by rw [u164w]; exact (hv160.2.1 34 7).1
  have u164u : u164.toInt ≤ 7 := by rw [u164w]; exact (hv160.2.1 34 7).2
  refine go_iconst (pc := 11) (v := 0) (by decide) dX3_read_11 ?_
  refine go_istore (pc := 12) (Nat.le_of_ble_eq_true rfl) dX3_read_12 (go_lv (lv2 := [(0, .ref 34), (1, .ref 1), (2, .int a3), (3, .ref c4), (4, .int 0)]) rfl ?_)
  have z165 : (0 : Int32).toInt = 0 := (ti_c (v := 0) (a := 0) (by decide))
  have g166 : (0 : Int) ≤ (h160.2.1 34 2).toInt := (hv160.2.1 34 2).1
  have g167 : (h160.2.1 34 2).toInt ≤ 500 := (hv160.2.1 34 2).2
  have g168 : (-2147483648 : Int) ≤ (h160.2.1 34 3).toInt := (hv160.2.1 34 3).1
  have g169 : (h160.2.1 34 3).toInt ≤ 2147483647 := (hv160.2.1 34 3).2
  have g170 : (0 : Int) ≤ (h160.2.1 34 7).toInt := (hv160.2.1 34 7).1
  have g171 : (h160.2.1 34 7).toInt ≤ 7 := (hv160.2.1 34 7).2
  have g172 : (h160.2.1 34 2).toInt = u162.toInt := by rw [← (show u162 = h160.2.1 34 2 from u162w)] <;> exact (ti_rfl u162)
  have g173 : (h160.2.1 34 3).toInt = u163.toInt := by rw [← (show u163 = h160.2.1 34 3 from u163w)] <;> exact (ti_rfl u163)
  have g174 : (h160.2.1 34 7).toInt = u164.toInt := by rw [← (show u164 = h160.2.1 34 7 from u164w)] <;> exact (ti_rfl u164)
  exact go_lv rfl ((key 2529).1 0 _ h160 hv160 (RQ.rfl _) (by omega) (by omega) f161 (by omega) (by omega) (by omega) (by omega) (by omega) (by omega) (by omega))
set_option maxHeartbeats 4000000 in
set_option maxRecDepth 100000 in
theorem s_X7_program (l : Launch) (d : Nat) {P : PP} {h : HP} (hv : Iv P h)  : Mt l yX7_program cX7_program 3 (some .int) (d + 19) [.ref 0] h 0 0 (fun r h' => ∃ v : Int32, r = some (.int v) ∧ -2147483648 ≤ v.toInt ∧ v.toInt ≤ 2147483647 ∧ (∃ Q : PP, Iv Q h' ∧ (Q.1.toInt = 0) ∧ Q.2.1 = P.2.1 ∧ Q.2.2.2.2 = P.2.2.2.2)) := by
  refine Mt_iv hv (by decide) (Nat.le_of_ble_eq_true rfl) ?_
  show Go l RX7 cX7_program 3 (g_rm (d + 19) 0 0) "program" (some .int) 117 0 0 (fun _ _ => True) (fun r h' => ∃ v : Int32, r = some (.int v) ∧ -2147483648 ≤ v.toInt ∧ v.toInt ≤ 2147483647 ∧ (∃ Q : PP, Iv Q h' ∧ (Q.1.toInt = 0) ∧ Q.2.1 = P.2.1 ∧ Q.2.2.2.2 = P.2.2.2.2)) 0 0 [(0, .ref 0)] [] h
  refine go_aload_n (pc := 0) rfl dX7_program_0 ?_
  refine gi_get (pc := 1) (lo := 0) (hi := 500) hv fL_X7_13 rfl (Nat.le_of_ble_eq_true rfl) rfl rfl dX7_program_1 (fun v1 v1l v1u v1w => ?_)
  have v1p : v1.toInt = P.1.toInt := by rw [v1w]; exact congrArg Int32.toInt hv.t0
  refine go_istore_n (pc := 4) (Nat.le_of_ble_eq_true rfl) dX7_program_4 (go_lv (lv2 := [(0, .ref 0), (1, .int v1)]) rfl ?_)
  refine go_aload_n (pc := 5) rfl dX7_program_5 ?_
  refine go_iconst (pc := 6) (v := 0) (by decide) dX7_program_6 ?_
  refine gi_put0 (pc := 7) hv (ti_c (v := 0) (a := 0) (by decide)) (fP_X7_13 _) (by omega) (by omega) dX7_program_7 (fun h2 hv2 hv2e => ?_)
  have z3 : (0 : Int32).toInt = 0 := (ti_c (v := 0) (a := 0) (by decide))
  refine go_aload_n (pc := 10) rfl dX7_program_10 ?_
  refine go_aload_n (pc := 11) rfl dX7_program_11 ?_
  refine gi_getF (pc := 12) (q := 34) hv2 fL_X7_35 rfl (Nat.le_of_ble_eq_true rfl) rfl (hv2.rf (by decide)) dX7_program_12 ?_
  refine go_aload_n (pc := 15) rfl dX7_program_15 ?_
  refine gi_getF (pc := 16) (q := 1) hv2 fL_X7_9 rfl (Nat.le_of_ble_eq_true rfl) rfl (hv2.rf (by decide)) dX7_program_16 ?_
  refine go_iload_n (pc := 19) rfl dX7_program_19 ?_
  refine go_aload_n (pc := 20) rfl dX7_program_20 ?_
  refine gi_getC (pc := 21) hv2 fL_X7_27 rfl (Nat.le_of_ble_eq_true rfl) rfl (by decide) dX7_program_21 (fun c4 hc4 fc4 => ?_)
  refine go_invV (pc := 24) (sl := 0) (s_X3_read l (d + 0) hv2 v1 (by rw [show (v1 : Int32).toInt = v1.toInt from (ti_rfl v1)]; omega) (by rw [show (v1 : Int32).toInt = v1.toInt from (ti_rfl v1)]; omega) c4 hc4) mL_X7_57 iM_X3_read sM_X3_read (hv2.sh rfl) rfl rfl rfl (Nat.le_of_ble_eq_true rfl) (show d + 0 + 18 + 1 ≤ d + 19 by omega) (show 8 + (6 + 11) + 40 * (d + 0 + 18) ≤ 40 * (d + 19) by omega) (g_c0 hv2.ln) (Nat.le_of_ble_eq_true rfl) dX7_program_24 ?_
  intro r h5 hq _
  obtain ⟨v8, rfl, v8l, v8u, ⟨Q6, hv5, sq7⟩⟩ := hq
  have z9 : Q6.1.toInt = (0 : Int32).toInt := by rw [sq7.1]
  have z10 : Q6.2.1.toInt = P.2.1.toInt := by rw [sq7.2.1]
  refine gi_put (pc := 27) (lo := -2147483648) (hi := 2147483647) hv5 (ti_rfl v8) (fP_X7_17 _) rfl (Nat.le_of_ble_eq_true rfl) rfl rfl (ti_ge (ti_rfl v8)) (ti_le2 (ti_rfl v8)) rfl rfl (by decide) (by decide) (by decide) (by decide) dX7_program_27 (fun h11 hv11 hv11e => ?_)
  refine go_aload_n (pc := 30) rfl dX7_program_30 ?_
  refine gi_get (pc := 31) (lo := -2147483648) (hi := 2147483647) hv11 fL_X7_17 rfl (Nat.le_of_ble_eq_true rfl) rfl rfl dX7_program_31 (fun v12 v12l v12u v12w => ?_)
  have v12r : v8 = h11.2.1 0 2 := (show v8 = h11.2.1 0 2 from by rw [hv11e]; exact g_iS.symm)
  have v12q : TI v12 v8.toInt := by rw [v12w.trans v12r.symm]; exact (ti_rfl v8)
  refine gf_if_eq (pc := 34) (tgt := 40) v12q (by decide) dX7_program_34 (fun q13 => ?_) (fun q13 => ?_)
  ·
    refine go_aload_n (pc := 40) rfl dX7_program_40 ?_
    refine gi_getC (pc := 41) hv11 fL_X7_23 rfl (Nat.le_of_ble_eq_true rfl) rfl (by decide) dX7_program_41 (fun c14 hc14 fc14 => ?_)
    refine go_astore_n (pc := 44) (Nat.le_of_ble_eq_true rfl) dX7_program_44 (go_lv (lv2 := [(0, .ref 0), (1, .int v1), (2, .ref c14)]) rfl ?_)
    refine go_aload_n (pc := 45) rfl dX7_program_45 ?_
    refine go_aload_n (pc := 46) rfl dX7_program_46 ?_
    refine gi_getC (pc := 47) hv11 fL_X7_27 rfl (Nat.le_of_ble_eq_true rfl) rfl (by decide) dX7_program_47 (fun c15 hc15 fc15 => ?_)
    refine gi_putX (pc := 50) hv11 hc15 (fP_X7_23 _) dX7_program_50 (fun h16 hv16 hv16e => ?_)
    refine go_aload_n (pc := 53) rfl dX7_program_53 ?_
    refine go_aload_n (pc := 54) rfl dX7_program_54 ?_
    refine gi_putC (pc := 55) hv16 hc14 (fP_X7_27 _) rfl (Nat.le_of_ble_eq_true rfl) rfl (fun _ => rfl) (fun _ => rfl) (by decide) (by decide) (by decide) (by decide) dX7_program_55 (fun h17 hv17 hv17e => ?_)
    refine go_aload_n (pc := 58) rfl dX7_program_58 ?_
    refine gi_getF (pc := 59) (q := 49) hv17 fL_X7_42 rfl (Nat.le_of_ble_eq_true rfl) rfl (hv17.rf (by decide)) dX7_program_59 ?_
    refine go_invV (pc := 62) (sl := 0) (s_X4_forget l (d + 17) hv17 ) mL_X7_61 iM_X4_forget sM_X4_forget (hv17.sh rfl) rfl rfl rfl (Nat.le_of_ble_eq_true rfl) (show d + 17 + 1 + 1 ≤ d + 19 by omega) (show 8 + (1 + 11) + 40 * (d + 17 + 1) ≤ 40 * (d + 19) by omega) (g_c0 hv17.ln) (Nat.le_of_ble_eq_true rfl) dX7_program_62 ?_
    intro r h18 hq _
    obtain ⟨rfl, hv18⟩ := hq
    refine go_aload_n (pc := 65) rfl dX7_program_65 ?_
    refine gi_getF (pc := 66) (q := 64) hv18 fL_X7_49 rfl (Nat.le_of_ble_eq_true rfl) rfl (hv18.rf (by decide)) dX7_program_66 ?_
    refine go_invV (pc := 69) (sl := 0) (s_X2_forget l (d + 17) hv18 ) mL_X7_64 iM_X2_forget sM_X2_forget (hv18.sh rfl) rfl rfl rfl (Nat.le_of_ble_eq_true rfl) (show d + 17 + 1 + 1 ≤ d + 19 by omega) (show 8 + (1 + 11) + 40 * (d + 17 + 1) ≤ 40 * (d + 19) by omega) (g_c0 hv18.ln) (Nat.le_of_ble_eq_true rfl) dX7_program_69 ?_
    intro r h19 hq _
    obtain ⟨rfl, hv19⟩ := hq
    refine go_aload_n (pc := 72) rfl dX7_program_72 ?_
    refine gi_getC (pc := 73) hv19 fL_X7_23 rfl (Nat.le_of_ble_eq_true rfl) rfl (by decide) dX7_program_73 (fun c20 hc20 fc20 => ?_)
    refine gi_get (pc := 76) (lo := 0) (hi := 40) hv19 fL_X7_65 (by rcases hc20 with rfl | rfl <;> rfl) (Nat.le_of_ble_eq_true rfl) rfl (by rcases hc20 with rfl | rfl <;> rfl) dX7_program_76 (fun v21 v21l v21u v21w => ?_)
    exact gi_iret (pc := 79) (ti_rfl v21) ⟨_, rfl, (ti_lo _), (ti_hi _), ⟨(Q6.1, Q6.2.1, Q6.2.2.1, c15, Q6.2.2.2.2), hv19, (by show Q6.1.toInt = 0; omega), (by first | rfl | (simp only [sq7.2.2, sq7.2.1, sq7.1])), (by first | rfl | (simp only [sq7.2.2, sq7.2.1, sq7.1]))⟩⟩ hv19 dX7_program_79
  ·
    refine go_bipush (pc := 37) (v := (-2)) (by decide) dX7_program_37 ?_
    have z22 : ((-2) : Int32).toInt = (-2) := (ti_c (v := (-2)) (a := (-2)) (by decide))
    exact gi_iret (pc := 39) (ti_c (v := (-2)) (a := (-2)) (by decide)) ⟨_, rfl, (ti_lo _), (ti_hi _), ⟨Q6, hv11, (by show Q6.1.toInt = 0; omega), (by first | rfl | (simp only [sq7.2.2, sq7.2.1, sq7.1])), (by first | rfl | (simp only [sq7.2.2, sq7.2.1, sq7.1]))⟩⟩ hv11 dX7_program_39
