theorem g_iIc {h : HP} {d j a b : Nat} {x v : Int32} (hd : d ≤ 33) (ha : 33 < a) (e : h.2.1 a b = v) : (hI h d j x).2.1 a b = v := by
  show (if a = d ∧ b = j then x else h.2.1 a b) = v
  rw [if_neg (by omega)]; exact e
theorem Iv.putK {P : PP} {h : HP} {c j : Nat} {x : Int32} {a : Int} (hi : Iv P h) (hc : c = 2 ∨ c = 18) (ex : TI x a) (h1 : 0 ≤ a) (h2 : a ≤ 5) (hn : ¬ a = 1) : Iv (P.1, P.2.1, (hI h (c + 2) j x).2.1, P.2.2.2) (hI h (c + 2) j x) := by
  obtain ⟨q1, q2, q3, q4, q5, q6, q7, q8, q9, q10, q12⟩ := hi
  have hrg : rg (c + 2) j = (0, 5) := by rcases hc with rfl | rfl <;> rfl
  refine ⟨q1, fun c' j' => ?_, q3, q4, ?_, fun c' hc' j' => ?_, ?_, ?_, fun c' hc' j' => rfl, q10, fun c' j' hc' => ?_⟩
  · show (rg c' j').1 ≤ (if c' = c + 2 ∧ j' = j then x else h.2.1 c' j').toInt ∧ (if c' = c + 2 ∧ j' = j then x else h.2.1 c' j').toInt ≤ (rg c' j').2
    by_cases e : c' = c + 2 ∧ j' = j
    · rw [if_pos e, e.1, e.2, show x.toInt = a from ex, hrg]; exact ⟨h1, h2⟩
    · rw [if_neg e]; exact q2 c' j'
  · show 1 ≤ (if 34 = c + 2 ∧ 1 = j then x else h.2.1 34 1).toInt → _
    rw [if_neg (by omega)]; exact q5
  · show (if c' + 2 = c + 2 ∧ j' = j then x else h.2.1 (c' + 2) j').toInt = 1 → 0 ≤ (if c' + 7 = c + 2 ∧ j' = j then x else h.2.1 (c' + 7) j').toInt
    rw [if_neg (show ¬ (c' + 7 = c + 2 ∧ j' = j) by omega)]
    by_cases e : c' + 2 = c + 2 ∧ j' = j
    · rw [if_pos e, show x.toInt = a from ex]; intro q; exact absurd q hn
    · rw [if_neg e]; exact q6 c' hc' j'
  · show (if 0 = c + 2 ∧ 1 = j then x else h.2.1 0 1) = _
    rw [if_neg (by omega)]; exact q7
  · show (if 70 = c + 2 ∧ 2 = j then x else h.2.1 70 2) = _
    rw [if_neg (by omega)]; exact q8
  · show (if c' = c + 2 ∧ j' = j then x else h.2.1 c' j') = _
    rw [if_neg (by unfold fzn at hc'; omega)]
    exact q12 c' j' hc'
theorem Iv.putE {P : PP} {h : HP} {c j : Nat} {x : Int32} {a : Int} (hi : Iv P h) (hc : c = 2 ∨ c = 18) (ex : TI x a) (h1 : -2 ≤ a) (h2 : a ≤ 4) (hn : 0 ≤ a ∨ ¬ (h.2.1 (c + 2) j).toInt = 1) : Iv (P.1, P.2.1, (hI h (c + 7) j x).2.1, P.2.2.2) (hI h (c + 7) j x) := by
  obtain ⟨q1, q2, q3, q4, q5, q6, q7, q8, q9, q10, q12⟩ := hi
  have hrg : rg (c + 7) j = (-2, 4) := by rcases hc with rfl | rfl <;> rfl
  refine ⟨q1, fun c' j' => ?_, q3, q4, ?_, fun c' hc' j' => ?_, ?_, ?_, fun c' hc' j' => rfl, q10, fun c' j' hc' => ?_⟩
  · show (rg c' j').1 ≤ (if c' = c + 7 ∧ j' = j then x else h.2.1 c' j').toInt ∧ (if c' = c + 7 ∧ j' = j then x else h.2.1 c' j').toInt ≤ (rg c' j').2
    by_cases e : c' = c + 7 ∧ j' = j
    · rw [if_pos e, e.1, e.2, show x.toInt = a from ex, hrg]; exact ⟨h1, h2⟩
    · rw [if_neg e]; exact q2 c' j'
  · show 1 ≤ (if 34 = c + 7 ∧ 1 = j then x else h.2.1 34 1).toInt → _
    rw [if_neg (by omega)]; exact q5
  · show (if c' + 2 = c + 7 ∧ j' = j then x else h.2.1 (c' + 2) j').toInt = 1 → 0 ≤ (if c' + 7 = c + 7 ∧ j' = j then x else h.2.1 (c' + 7) j').toInt
    rw [if_neg (show ¬ (c' + 2 = c + 7 ∧ j' = j) by omega)]
    by_cases e : c' + 7 = c + 7 ∧ j' = j
    · rw [if_pos e, show x.toInt = a from ex]
      intro q
      rcases hn with hn | hn
      · exact hn
      · have e1 : c' = c := by omega
        rw [e1, e.2] at q
        exact absurd q hn
    · rw [if_neg e]; exact q6 c' hc' j'
  · show (if 0 = c + 7 ∧ 1 = j then x else h.2.1 0 1) = _
    rw [if_neg (by omega)]; exact q7
  · show (if 70 = c + 7 ∧ 2 = j then x else h.2.1 70 2) = _
    rw [if_neg (by omega)]; exact q8
  · show (if c' = c + 7 ∧ j' = j then x else h.2.1 c' j') = _
    rw [if_neg (by unfold fzn at hc'; omega)]
    exact q12 c' j' hc'
section GK
variable {l : Launch} {own : String} {cc : ByteArray} {nL : Nat} {R : Room} {nm : String} {rt : Option FieldType} {n0 mc ms : Nat} {Xf : Nat → State → Prop} {Qf : Option Value → HP → Prop} {sl pc : Nat} {lv : List (Nat × Value)} {st : List Value} {h : HP} {P : PP}
theorem gi_kst {c : Nat} {i x : Int32} {a b : Int} (hv : Iv P h) (hc : c = 2 ∨ c = 18) (ei : TI i a) (ex : TI x b) (h0 : 0 ≤ a) (h1 : a < 40) (g1 : 0 ≤ b) (g2 : b ≤ 5) (gn : ¬ b = 1) (hd : decode cc pc = .ok (.iastore, 1)) (k : ∀ h' : HP, Iv (P.1, P.2.1, h'.2.1, P.2.2.2) h' → h' = hI h (c + 2) a.toNat x → Go l own cc nL R nm rt n0 mc ms Xf Qf sl (pc + 1) lv st h') : Go l own cc nL R nm rt n0 mc ms Xf Qf sl pc lv (.int x :: .int i :: .ref (c + 2) :: st) h :=
  go_iast (len := 40) (hv.sh (by rcases hc with rfl | rfl <;> rfl)) (ti_in ei h0 h1) hd (by rw [ti_ix ei h0]; exact k _ (hv.putK hc ex g1 g2 gn) rfl)
theorem gi_cst {c : Nat} {i x : Int32} {a b : Int} (hv : Iv P h) (hc : c = 2 ∨ c = 18) (ei : TI i a) (ex : TI x b) (h0 : 0 ≤ a) (h1 : a < 40) (g1 : -2 ≤ b) (g2 : b ≤ 4) (gn : 0 ≤ b ∨ ¬ (h.2.1 (c + 2) a.toNat).toInt = 1) (hd : decode cc pc = .ok (.iastore, 1)) (k : ∀ h' : HP, Iv (P.1, P.2.1, h'.2.1, P.2.2.2) h' → h' = hI h (c + 7) a.toNat x → Go l own cc nL R nm rt n0 mc ms Xf Qf sl (pc + 1) lv st h') : Go l own cc nL R nm rt n0 mc ms Xf Qf sl pc lv (.int x :: .int i :: .ref (c + 7) :: st) h :=
  go_iast (len := 40) (hv.sh (by rcases hc with rfl | rfl <;> rfl)) (ti_in ei h0 h1) hd (by rw [ti_ix ei h0]; exact k _ (hv.putE hc ex g1 g2 gn) rfl)
end GK
theorem dX0_add_0 : decode cX0_add 0 = .ok (.aload_n 0, 1) := by decide +kernel
theorem dX0_add_1 : decode cX0_add 1 = .ok (.getfield 9, 3) := by decide +kernel
theorem dX0_add_4 : decode cX0_add 4 = .ok (.istore 5, 2) := by decide +kernel
theorem dX0_add_6 : decode cX0_add 6 = .ok (.aload_n 0, 1) := by decide +kernel
theorem dX0_add_7 : decode cX0_add 7 = .ok (.dup, 1) := by decide +kernel
theorem dX0_add_8 : decode cX0_add 8 = .ok (.getfield 9, 3) := by decide +kernel
theorem dX0_add_11 : decode cX0_add 11 = .ok (.iconst 1, 1) := by decide +kernel
theorem dX0_add_12 : decode cX0_add 12 = .ok (.iadd, 1) := by decide +kernel
theorem dX0_add_13 : decode cX0_add 13 = .ok (.putfield 9, 3) := by decide +kernel
theorem dX0_add_16 : decode cX0_add 16 = .ok (.aload_n 0, 1) := by decide +kernel
theorem dX0_add_17 : decode cX0_add 17 = .ok (.getfield 32, 3) := by decide +kernel
theorem dX0_add_20 : decode cX0_add 20 = .ok (.iload 5, 2) := by decide +kernel
theorem dX0_add_22 : decode cX0_add 22 = .ok (.iload_n 1, 1) := by decide +kernel
theorem dX0_add_23 : decode cX0_add 23 = .ok (.iastore, 1) := by decide +kernel
theorem dX0_add_24 : decode cX0_add 24 = .ok (.aload_n 0, 1) := by decide +kernel
theorem dX0_add_25 : decode cX0_add 25 = .ok (.getfield 35, 3) := by decide +kernel
theorem dX0_add_28 : decode cX0_add 28 = .ok (.iload 5, 2) := by decide +kernel
theorem dX0_add_30 : decode cX0_add 30 = .ok (.iload_n 2, 1) := by decide +kernel
theorem dX0_add_31 : decode cX0_add 31 = .ok (.iastore, 1) := by decide +kernel
theorem dX0_add_32 : decode cX0_add 32 = .ok (.aload_n 0, 1) := by decide +kernel
theorem dX0_add_33 : decode cX0_add 33 = .ok (.getfield 38, 3) := by decide +kernel
theorem dX0_add_36 : decode cX0_add 36 = .ok (.iload 5, 2) := by decide +kernel
theorem dX0_add_38 : decode cX0_add 38 = .ok (.iload_n 3, 1) := by decide +kernel
theorem dX0_add_39 : decode cX0_add 39 = .ok (.iastore, 1) := by decide +kernel
theorem dX0_add_40 : decode cX0_add 40 = .ok (.aload_n 0, 1) := by decide +kernel
theorem dX0_add_41 : decode cX0_add 41 = .ok (.getfield 41, 3) := by decide +kernel
theorem dX0_add_44 : decode cX0_add 44 = .ok (.iload 5, 2) := by decide +kernel
theorem dX0_add_46 : decode cX0_add 46 = .ok (.iload 4, 2) := by decide +kernel
theorem dX0_add_48 : decode cX0_add 48 = .ok (.iastore, 1) := by decide +kernel
theorem dX0_add_49 : decode cX0_add 49 = .ok (.aload_n 0, 1) := by decide +kernel
theorem dX0_add_50 : decode cX0_add 50 = .ok (.getfield 44, 3) := by decide +kernel
theorem dX0_add_53 : decode cX0_add 53 = .ok (.iload 5, 2) := by decide +kernel
theorem dX0_add_55 : decode cX0_add 55 = .ok (.iconst (-1), 1) := by decide +kernel
theorem dX0_add_56 : decode cX0_add 56 = .ok (.iastore, 1) := by decide +kernel
theorem dX0_add_57 : decode cX0_add 57 = .ok (.aload_n 0, 1) := by decide +kernel
theorem dX0_add_58 : decode cX0_add 58 = .ok (.getfield 47, 3) := by decide +kernel
theorem dX0_add_61 : decode cX0_add 61 = .ok (.iload 5, 2) := by decide +kernel
theorem dX0_add_63 : decode cX0_add 63 = .ok (.bipush (-2), 2) := by decide +kernel
theorem dX0_add_65 : decode cX0_add 65 = .ok (.iastore, 1) := by decide +kernel
theorem dX0_add_66 : decode cX0_add 66 = .ok (.aload_n 0, 1) := by decide +kernel
theorem dX0_add_67 : decode cX0_add 67 = .ok (.getfield 50, 3) := by decide +kernel
theorem dX0_add_70 : decode cX0_add 70 = .ok (.iload 5, 2) := by decide +kernel
theorem dX0_add_72 : decode cX0_add 72 = .ok (.iconst (-1), 1) := by decide +kernel
theorem dX0_add_73 : decode cX0_add 73 = .ok (.iastore, 1) := by decide +kernel
theorem dX0_add_74 : decode cX0_add 74 = .ok (.aload_n 0, 1) := by decide +kernel
theorem dX0_add_75 : decode cX0_add 75 = .ok (.getfield 53, 3) := by decide +kernel
theorem dX0_add_78 : decode cX0_add 78 = .ok (.iload 5, 2) := by decide +kernel
theorem dX0_add_80 : decode cX0_add 80 = .ok (.iconst (-1), 1) := by decide +kernel
theorem dX0_add_81 : decode cX0_add 81 = .ok (.iastore, 1) := by decide +kernel
theorem dX0_add_82 : decode cX0_add 82 = .ok (.aload_n 0, 1) := by decide +kernel
theorem dX0_add_83 : decode cX0_add 83 = .ok (.getfield 56, 3) := by decide +kernel
theorem dX0_add_86 : decode cX0_add 86 = .ok (.iload 5, 2) := by decide +kernel
theorem dX0_add_88 : decode cX0_add 88 = .ok (.iconst (-1), 1) := by decide +kernel
theorem dX0_add_89 : decode cX0_add 89 = .ok (.iastore, 1) := by decide +kernel
theorem dX0_add_90 : decode cX0_add 90 = .ok (.iload 5, 2) := by decide +kernel
theorem dX0_add_92 : decode cX0_add 92 = .ok (.ireturn, 1) := by decide +kernel
theorem dX0_clear_0 : decode cX0_clear 0 = .ok (.aload_n 0, 1) := by decide +kernel
theorem dX0_clear_1 : decode cX0_clear 1 = .ok (.iconst 0, 1) := by decide +kernel
theorem dX0_clear_2 : decode cX0_clear 2 = .ok (.putfield 9, 3) := by decide +kernel
theorem dX0_clear_5 : decode cX0_clear 5 = .ok (.aload_n 0, 1) := by decide +kernel
theorem dX0_clear_6 : decode cX0_clear 6 = .ok (.iconst 0, 1) := by decide +kernel
theorem dX0_clear_7 : decode cX0_clear 7 = .ok (.putfield 15, 3) := by decide +kernel
theorem dX0_clear_10 : decode cX0_clear 10 = .ok (.aload_n 0, 1) := by decide +kernel
theorem dX0_clear_11 : decode cX0_clear 11 = .ok (.lconst 0, 1) := by decide +kernel
theorem dX0_clear_12 : decode cX0_clear 12 = .ok (.putfield 18, 3) := by decide +kernel
theorem dX0_clear_15 : decode cX0_clear 15 = .ok (.aload_n 0, 1) := by decide +kernel
theorem dX0_clear_16 : decode cX0_clear 16 = .ok (.iconst 0, 1) := by decide +kernel
theorem dX0_clear_17 : decode cX0_clear 17 = .ok (.putfield 22, 3) := by decide +kernel
theorem dX0_clear_20 : decode cX0_clear 20 = .ok (.aload_n 0, 1) := by decide +kernel
theorem dX0_clear_21 : decode cX0_clear 21 = .ok (.iconst 0, 1) := by decide +kernel
theorem dX0_clear_22 : decode cX0_clear 22 = .ok (.putfield 25, 3) := by decide +kernel
theorem dX0_clear_25 : decode cX0_clear 25 = .ok (.return_, 1) := by decide +kernel
theorem dX3_readCondition_0 : decode cX3_readCondition 0 = .ok (.aload_n 0, 1) := by decide +kernel
theorem dX3_readCondition_1 : decode cX3_readCondition 1 = .ok (.getfield 46, 3) := by decide +kernel
theorem dX3_readCondition_4 : decode cX3_readCondition 4 = .ok (.getfield 175, 3) := by decide +kernel
theorem dX3_readCondition_7 : decode cX3_readCondition 7 = .ok (.iload_n 1, 1) := by decide +kernel
theorem dX3_readCondition_8 : decode cX3_readCondition 8 = .ok (.aload_n 0, 1) := by decide +kernel
theorem dX3_readCondition_9 : decode cX3_readCondition 9 = .ok (.invokevirtual 178, 3) := by decide +kernel
theorem dX3_readCondition_12 : decode cX3_readCondition 12 = .ok (.iastore, 1) := by decide +kernel
theorem dX3_readCondition_13 : decode cX3_readCondition 13 = .ok (.aload_n 0, 1) := by decide +kernel
theorem dX3_readCondition_14 : decode cX3_readCondition 14 = .ok (.bipush 60, 2) := by decide +kernel
theorem dX3_readCondition_16 : decode cX3_readCondition 16 = .ok (.invokevirtual 181, 3) := by decide +kernel
theorem dX3_readCondition_19 : decode cX3_readCondition 19 = .ok (.aload_n 0, 1) := by decide +kernel
theorem dX3_readCondition_20 : decode cX3_readCondition 20 = .ok (.getfield 46, 3) := by decide +kernel
theorem dX3_readCondition_23 : decode cX3_readCondition 23 = .ok (.getfield 184, 3) := by decide +kernel
theorem dX3_readCondition_26 : decode cX3_readCondition 26 = .ok (.iload_n 1, 1) := by decide +kernel
theorem dX3_readCondition_27 : decode cX3_readCondition 27 = .ok (.aload_n 0, 1) := by decide +kernel
theorem dX3_readCondition_28 : decode cX3_readCondition 28 = .ok (.invokevirtual 178, 3) := by decide +kernel
theorem dX3_readCondition_31 : decode cX3_readCondition 31 = .ok (.iastore, 1) := by decide +kernel
theorem dX3_readCondition_32 : decode cX3_readCondition 32 = .ok (.aload_n 0, 1) := by decide +kernel
theorem dX3_readCondition_33 : decode cX3_readCondition 33 = .ok (.iload_n 2, 1) := by decide +kernel
theorem dX3_readCondition_34 : decode cX3_readCondition 34 = .ok (.iconst 0, 1) := by decide +kernel
theorem dX3_readCondition_35 : decode cX3_readCondition 35 = .ok (.invokevirtual 118, 3) := by decide +kernel
theorem dX3_readCondition_38 : decode cX3_readCondition 38 = .ok (.return_, 1) := by decide +kernel
theorem dX3_readNumbers_0 : decode cX3_readNumbers 0 = .ok (.aload_n 0, 1) := by decide +kernel
theorem dX3_readNumbers_1 : decode cX3_readNumbers 1 = .ok (.getfield 46, 3) := by decide +kernel
theorem dX3_readNumbers_4 : decode cX3_readNumbers 4 = .ok (.getfield 175, 3) := by decide +kernel
theorem dX3_readNumbers_7 : decode cX3_readNumbers 7 = .ok (.iload_n 1, 1) := by decide +kernel
theorem dX3_readNumbers_8 : decode cX3_readNumbers 8 = .ok (.aload_n 0, 1) := by decide +kernel
theorem dX3_readNumbers_9 : decode cX3_readNumbers 9 = .ok (.invokevirtual 178, 3) := by decide +kernel
theorem dX3_readNumbers_12 : decode cX3_readNumbers 12 = .ok (.iastore, 1) := by decide +kernel
theorem dX3_readNumbers_13 : decode cX3_readNumbers 13 = .ok (.aload_n 0, 1) := by decide +kernel
theorem dX3_readNumbers_14 : decode cX3_readNumbers 14 = .ok (.invokevirtual 66, 3) := by decide +kernel
theorem dX3_readNumbers_17 : decode cX3_readNumbers 17 = .ok (.istore_n 2, 1) := by decide +kernel
theorem dX3_readNumbers_18 : decode cX3_readNumbers 18 = .ok (.iload_n 2, 1) := by decide +kernel
theorem dX3_readNumbers_19 : decode cX3_readNumbers 19 = .ok (.bipush 43, 2) := by decide +kernel
theorem dX3_readNumbers_21 : decode cX3_readNumbers 21 = .ok (.if_icmp .eq 21, 3) := by decide +kernel
theorem dX3_readNumbers_24 : decode cX3_readNumbers 24 = .ok (.iload_n 2, 1) := by decide +kernel
theorem dX3_readNumbers_25 : decode cX3_readNumbers 25 = .ok (.bipush 45, 2) := by decide +kernel
theorem dX3_readNumbers_27 : decode cX3_readNumbers 27 = .ok (.if_icmp .eq 15, 3) := by decide +kernel
theorem dX3_readNumbers_30 : decode cX3_readNumbers 30 = .ok (.iload_n 2, 1) := by decide +kernel
theorem dX3_readNumbers_31 : decode cX3_readNumbers 31 = .ok (.bipush 42, 2) := by decide +kernel
theorem dX3_readNumbers_33 : decode cX3_readNumbers 33 = .ok (.if_icmp .eq 9, 3) := by decide +kernel
theorem dX3_readNumbers_36 : decode cX3_readNumbers 36 = .ok (.iload_n 2, 1) := by decide +kernel
theorem dX3_readNumbers_37 : decode cX3_readNumbers 37 = .ok (.bipush 60, 2) := by decide +kernel
theorem dX3_readNumbers_39 : decode cX3_readNumbers 39 = .ok (.if_icmp .ne 36, 3) := by decide +kernel
theorem dX3_readNumbers_42 : decode cX3_readNumbers 42 = .ok (.aload_n 0, 1) := by decide +kernel
theorem dX3_readNumbers_43 : decode cX3_readNumbers 43 = .ok (.dup, 1) := by decide +kernel
theorem dX3_readNumbers_44 : decode cX3_readNumbers 44 = .ok (.getfield 19, 3) := by decide +kernel
theorem dX3_readNumbers_47 : decode cX3_readNumbers 47 = .ok (.iconst 1, 1) := by decide +kernel
theorem dX3_readNumbers_48 : decode cX3_readNumbers 48 = .ok (.iadd, 1) := by decide +kernel
theorem dX3_readNumbers_49 : decode cX3_readNumbers 49 = .ok (.putfield 19, 3) := by decide +kernel
theorem dX3_readNumbers_52 : decode cX3_readNumbers 52 = .ok (.aload_n 0, 1) := by decide +kernel
theorem dX3_readNumbers_53 : decode cX3_readNumbers 53 = .ok (.getfield 46, 3) := by decide +kernel
theorem dX3_readNumbers_56 : decode cX3_readNumbers 56 = .ok (.getfield 207, 3) := by decide +kernel
theorem dX3_readNumbers_59 : decode cX3_readNumbers 59 = .ok (.iload_n 1, 1) := by decide +kernel
theorem dX3_readNumbers_60 : decode cX3_readNumbers 60 = .ok (.iload_n 2, 1) := by decide +kernel
theorem dX3_readNumbers_61 : decode cX3_readNumbers 61 = .ok (.iastore, 1) := by decide +kernel
theorem dX3_readNumbers_62 : decode cX3_readNumbers 62 = .ok (.aload_n 0, 1) := by decide +kernel
theorem dX3_readNumbers_63 : decode cX3_readNumbers 63 = .ok (.getfield 46, 3) := by decide +kernel
theorem dX3_readNumbers_66 : decode cX3_readNumbers 66 = .ok (.getfield 184, 3) := by decide +kernel
theorem dX3_readNumbers_69 : decode cX3_readNumbers 69 = .ok (.iload_n 1, 1) := by decide +kernel
theorem dX3_readNumbers_70 : decode cX3_readNumbers 70 = .ok (.aload_n 0, 1) := by decide +kernel
theorem dX3_readNumbers_71 : decode cX3_readNumbers 71 = .ok (.invokevirtual 178, 3) := by decide +kernel
theorem dX3_readNumbers_74 : decode cX3_readNumbers 74 = .ok (.iastore, 1) := by decide +kernel
theorem dX3_readNumbers_75 : decode cX3_readNumbers 75 = .ok (.return_, 1) := by decide +kernel
theorem dX3_readTry_0 : decode cX3_readTry 0 = .ok (.aload_n 0, 1) := by decide +kernel
theorem dX3_readTry_1 : decode cX3_readTry 1 = .ok (.iconst (-1), 1) := by decide +kernel
theorem dX3_readTry_2 : decode cX3_readTry 2 = .ok (.invokevirtual 157, 3) := by decide +kernel
theorem dX3_readTry_5 : decode cX3_readTry 5 = .ok (.istore_n 1, 1) := by decide +kernel
theorem dX3_readTry_6 : decode cX3_readTry 6 = .ok (.aload_n 0, 1) := by decide +kernel
theorem dX3_readTry_7 : decode cX3_readTry 7 = .ok (.dup, 1) := by decide +kernel
theorem dX3_readTry_8 : decode cX3_readTry 8 = .ok (.getfield 19, 3) := by decide +kernel
theorem dX3_readTry_11 : decode cX3_readTry 11 = .ok (.iconst 1, 1) := by decide +kernel
theorem dX3_readTry_12 : decode cX3_readTry 12 = .ok (.iadd, 1) := by decide +kernel
theorem dX3_readTry_13 : decode cX3_readTry 13 = .ok (.putfield 19, 3) := by decide +kernel
theorem dX3_readTry_16 : decode cX3_readTry 16 = .ok (.aload_n 0, 1) := by decide +kernel
theorem dX3_readTry_17 : decode cX3_readTry 17 = .ok (.iload_n 1, 1) := by decide +kernel
theorem dX3_readTry_18 : decode cX3_readTry 18 = .ok (.iconst 0, 1) := by decide +kernel
theorem dX3_readTry_19 : decode cX3_readTry 19 = .ok (.invokevirtual 118, 3) := by decide +kernel
theorem dX3_readTry_22 : decode cX3_readTry 22 = .ok (.return_, 1) := by decide +kernel
