theorem g_iIc {h : HP} {d j a b : Nat} {x v : Int32} (hd : d ≤ 33) (ha : 33 < a) (e : h.2.1 a b = v) : (hI h d j x).2.1 a b = v := by
  show (if a = d ∧ b = j then x else h.2.1 a b) = v
  rw [if_neg (by omega)]; exact e
theorem Iv.putK {P : PP} {h : HP} {c j : Nat} {x : Int32} {a : Int} (hi : Iv P h) (hc : c = 2 ∨ c = 18) (ex : TI x a) (h1 : 0 ≤ a) (h2 : a ≤ 5) (hn : ¬ a = 1) : Iv (P.1, P.2.1, (hI h (c + 2) j x).2.1, P.2.2.2) (hI h (c + 2) j x) := by
  obtain ⟨q1, q2, q3, q4, q5, q6, q7, q8, q9, q10, q12⟩ := hi
  have hrg : rg (c + 2) j = (0, 5) := by rcases hc with rfl | rfl <;> rfl
  refine ⟨q1, fun c' j' => ?_, q3, q4, ?_, fun c' hc' j' => ?_, ?_, ?_, fun c' hc' j' => rfl, q10, fun c' j' hc' => ?_⟩
  · show (rg c' j').1 ≤ (if c' = c + 2 ∧ j' = j then x else h.2.1 c' j').toInt ∧ (if c' = c + 2 ∧ j' = j then x else h.2.1 c' j').toInt ≤ (rg c' j').2
    by_cases e : c' = c + 2 ∧ j' = j
    · rw [if_pos e, e.1, e.2, show x.toInt = a from ex, hrg]; exact ⟨h1, h2⟩
    · rw [if_neg e]; exact q2 c' j'
  · show 1 ≤ (if 34 = c + 2 ∧ 1 = j then x else h.2.1 34 1).toInt → _
    rw [if_neg (by omega)]; exact q5
  · show (if c' + 2 = c + 2 ∧ j' = j then x else h.2.1 (c' + 2) j').toInt = 1 → 0 ≤ (if c' + 7 = c + 2 ∧ j' = j then x else h.2.1 (c' + 7) j').toInt
    rw [if_neg (show ¬ (c' + 7 = c + 2 ∧ j' = j) by omega)]
    by_cases e : c' + 2 = c + 2 ∧ j' = j
    · rw [if_pos e, show x.toInt = a from ex]; intro q; exact absurd q hn
    · rw [if_neg e]; exact q6 c' hc' j'
  · show (if 0 = c + 2 ∧ 1 = j then x else h.2.1 0 1) = _
    rw [if_neg (by omega)]; exact q7
  · show (if 70 = c + 2 ∧ 2 = j then x else h.2.1 70 2) = _
    rw [if_neg (by omega)]; exact q8
  · show (if c' = c + 2 ∧ j' = j then x else h.2.1 c' j') = _
    rw [if_neg (by unfold fzn at hc'; omega)]
    exact q12 c' j' hc'
theorem Iv.putE {P : PP} {h : HP} {c j : Nat} {x : Int32} {a : Int} (hi : Iv P h) (hc : c = 2 ∨ c = 18) (ex : TI x a) (h1 : -2 ≤ a) (h2 : a ≤ 4) (hn : 0 ≤ a ∨ ¬ (h.2.1 (c + 2) j).toInt = 1) : Iv (P.1, P.2.1, (hI h (c + 7) j x).2.1, P.2.2.2) (hI h (c + 7) j x) := by
  obtain ⟨q1, q2, q3, q4, q5, q6, q7, q8, q9, q10, q12⟩ := hi
  have hrg : rg (c + 7) j = (-2, 4) := by rcases hc with rfl | rfl <;> rfl
  refine ⟨q1, fun c' j' => ?_, q3, q4, ?_, fun c' hc' j' => ?_, ?_, ?_, fun c' hc' j' => rfl, q10, fun c' j' hc' => ?_⟩
  · show (rg c' j').1 ≤ (if c' = c + 7 ∧ j' = j then x else h.2.1 c' j').toInt ∧ (if c' = c + 7 ∧ j' = j then x else h.2.1 c' j').toInt ≤ (rg c' j').2
    by_cases e : c' = c + 7 ∧ j' = j
    · rw [if_pos e, e.1, e.2, show x.toInt = a from ex, hrg]; exact ⟨h1, h2⟩
    · rw [if_neg e]; exact q2 c' j'
  · show 1 ≤ (if 34 = c + 7 ∧ 1 = j then x else h.2.1 34 1).toInt → _
    rw [if_neg (by omega)]; exact q5
  · show (if c' + 2 = c + 7 ∧ j' = j then x else h.2.1 (c' + 2) j').toInt = 1 → 0 ≤ (if c' + 7 = c + 7 ∧ j' = j then x else h.2.1 (c' + 7) j').toInt
    rw [if_neg (show ¬ (c' + 2 = c + 7 ∧ j' = j) by omega)]
    by_cases e : c' + 7 = c + 7 ∧ j' = j
    · rw [if_pos e, show x.toInt = a from ex]
      intro q
      rcases hn with hn | hn
      · exact hn
      · have e1 : c' = c := by omega
        rw [e1, e.2] at q
        exact absurd q hn
    · rw [if_neg e]; exact q6 c' hc' j'
  · show (if 0 = c + 7 ∧ 1 = j then x else h.2.1 0 1) = _
    rw [if_neg (by omega)]; exact q7
  · show (if 70 = c + 7 ∧ 2 = j then x else h.2.1 70 2) = _
    rw [if_neg (by omega)]; exact q8
  · show (if c' = c + 7 ∧ j' = j then x else h.2.1 c' j') = _
    rw [if_neg (by unfold fzn at hc'; omega)]
    exact q12 c' j' hc'
section GK
variable {l : Launch} {own : String} {cc : ByteArray} {nL : Nat} {R : Room} {nm : String} {rt : Option FieldType} {n0 mc ms : Nat} {Xf : Nat → State → Prop} {Qf : Option Value → HP → Prop} {sl pc : Nat} {lv : List (Nat × Value)} {st : List Value} {h : HP} {P : PP}
theorem gi_kst {c : Nat} {i x : Int32} {a b : Int} (hv : Iv P h) (hc : c = 2 ∨ c = 18) (ei : TI i a) (ex : TI x b) (h0 : 0 ≤ a) (h1 : a < 40) (g1 : 0 ≤ b) (g2 : b ≤ 5) (gn : ¬ b = 1) (hd : decode cc pc = .ok (.iastore, 1)) (k : ∀ h' : HP, Iv (P.1, P.2.1, h'.2.1, P.2.2.2) h' → h' = hI h (c + 2) a.toNat x → Go l own cc nL R nm rt n0 mc ms Xf Qf sl (pc + 1) lv st h') : Go l own cc nL R nm rt n0 mc ms Xf Qf sl pc lv (.int x :: .int i :: .ref (c + 2) :: st) h :=
  go_iast (len := 40) (hv.sh (by rcases hc with rfl | rfl <;> rfl)) (ti_in ei h0 h1) hd (by rw [ti_ix ei h0]; exact k _ (hv.putK hc ex g1 g2 gn) rfl)
theorem gi_cst {c : Nat} {i x : Int32} {a b : Int} (hv : Iv P h) (hc : c = 2 ∨ c = 18) (ei : TI i a) (ex : TI x b) (h0 : 0 ≤ a) (h1 : a < 40) (g1 : -2 ≤ b) (g2 : b ≤ 4) (gn : 0 ≤ b ∨ ¬ (h.2.1 (c + 2) a.toNat).toInt = 1) (hd : decode cc pc = .ok (.iastore, 1)) (k : ∀ h' : HP, Iv (P.1, P.2.1, h'.2.1, P.2.2.2) h' → h' = hI h (c + 7) a.toNat x → Go l own cc nL R nm rt n0 mc ms Xf Qf sl (pc + 1) lv st h') : Go l own cc nL R nm rt n0 mc ms Xf Qf sl pc lv (.int x :: .int i :: .ref (c + 7) :: st) h :=
  go_iast (len := 40) (hv.sh (by rcases hc with rfl | rfl <;> rfl)) (ti_in ei h0 h1) hd (by rw [ti_ix ei h0]; exact k _ (hv.putE hc ex g1 g2 gn) rfl)
end GK
theorem dX0_add_0 : decode cX0_add 0 = .ok (.aload_n 0, 1) := by decide +kernel
theorem dX0_add_1 : decode cX0_add 1 = .ok (.getfield 9, 3) := by decide +kernel
theorem dX0_add_4 : decode cX0_add 4 = .ok (.istore 5, 2) := by decide +kernel
theorem dX0_add_6 : decode cX0_add 6 = .ok (.aload_n 0, 1) := by decide +kernel
theorem dX0_add_7 : decode cX0_add 7 = .ok (.dup, 1) := by decide +kernel
theorem dX0_add_8 : decode cX0_add 8 = .ok (.getfield 9, 3) := by decide +kernel
theorem dX0_add_11 : decode cX0_add 11 = .ok (.iconst 1, 1) := by decide +kernel
theorem dX0_add_12 : decode cX0_add 12 = .ok (.iadd, 1) := by decide +kernel
theorem dX0_add_13 : decode cX0_add 13 = .ok (.putfield 9, 3) := by decide +kernel
theorem dX0_add_16 : decode cX0_add 16 = .ok (.aload_n 0, 1) := by decide +kernel
theorem dX0_add_17 : decode cX0_add 17 = .ok (.getfield 32, 3) := by decide +kernel
theorem dX0_add_20 : decode cX0_add 20 = .ok (.iload 5, 2) := by decide +kernel
theorem dX0_add_22 : decode cX0_add 22 = .ok (.iload_n 1, 1) := by decide +kernel
theorem dX0_add_23 : decode cX0_add 23 = .ok (.iastore, 1) := by decide +kernel
theorem dX0_add_24 : decode cX0_add 24 = .ok (.aload_n 0, 1) := by decide +kernel
theorem dX0_add_25 : decode cX0_add 25 = .ok (.getfield 35, 3) := by decide +kernel
theorem dX0_add_28 : decode cX0_add 28 = .ok (.iload 5, 2) := by decide +kernel
theorem dX0_add_30 : decode cX0_add 30 = .ok (.iload_n 2, 1) := by decide +kernel
theorem dX0_add_31 : decode cX0_add 31 = .ok (.iastore, 1) := by decide +kernel
theorem dX0_add_32 : decode cX0_add 32 = .ok (.aload_n 0, 1) := by decide +kernel
theorem dX0_add_33 : decode cX0_add 33 = .ok (.getfield 38, 3) := by decide +kernel
theorem dX0_add_36 : decode cX0_add 36 = .ok (.iload 5, 2) := by decide +kernel
theorem dX0_add_38 : decode cX0_add 38 = .ok (.iload_n 3, 1) := by decide +kernel
theorem dX0_add_39 : decode cX0_add 39 = .ok (.iastore, 1) := by decide +kernel
theorem dX0_add_40 : decode cX0_add 40 = .ok (.aload_n 0, 1) := by decide +kernel
theorem dX0_add_41 : decode cX0_add 41 = .ok (.getfield 41, 3) := by decide +kernel
theorem dX0_add_44 : decode cX0_add 44 = .ok (.iload 5, 2) := by decide +kernel
theorem dX0_add_46 : decode cX0_add 46 = .ok (.iload 4, 2) := by decide +kernel
theorem dX0_add_48 : decode cX0_add 48 = .ok (.iastore, 1) := by decide +kernel
theorem dX0_add_49 : decode cX0_add 49 = .ok (.aload_n 0, 1) := by decide +kernel
theorem dX0_add_50 : decode cX0_add 50 = .ok (.getfield 44, 3) := by decide +kernel
theorem dX0_add_53 : decode cX0_add 53 = .ok (.iload 5, 2) := by decide +kernel
theorem dX0_add_55 : decode cX0_add 55 = .ok (.iconst (-1), 1) := by decide +kernel
theorem dX0_add_56 : decode cX0_add 56 = .ok (.iastore, 1) := by decide +kernel
theorem dX0_add_57 : decode cX0_add 57 = .ok (.aload_n 0, 1) := by decide +kernel
theorem dX0_add_58 : decode cX0_add 58 = .ok (.getfield 47, 3) := by decide +kernel
theorem dX0_add_61 : decode cX0_add 61 = .ok (.iload 5, 2) := by decide +kernel
theorem dX0_add_63 : decode cX0_add 63 = .ok (.bipush (-2), 2) := by decide +kernel
theorem dX0_add_65 : decode cX0_add 65 = .ok (.iastore, 1) := by decide +kernel
theorem dX0_add_66 : decode cX0_add 66 = .ok (.aload_n 0, 1) := by decide +kernel
theorem dX0_add_67 : decode cX0_add 67 = .ok (.getfield 50, 3) := by decide +kernel
theorem dX0_add_70 : decode cX0_add 70 = .ok (.iload 5, 2) := by decide +kernel
theorem dX0_add_72 : decode cX0_add 72 = .ok (.iconst (-1), 1) := by decide +kernel
theorem dX0_add_73 : decode cX0_add 73 = .ok (.iastore, 1) := by decide +kernel
theorem dX0_add_74 : decode cX0_add 74 = .ok (.aload_n 0, 1) := by decide +kernel
theorem dX0_add_75 : decode cX0_add 75 = .ok (.getfield 53, 3) := by decide +kernel
theorem dX0_add_78 : decode cX0_add 78 = .ok (.iload 5, 2) := by decide +kernel
theorem dX0_add_80 : decode cX0_add 80 = .ok (.iconst (-1), 1) := by decide +kernel
theorem dX0_add_81 : decode cX0_add 81 = .ok (.iastore, 1) := by decide +kernel
theorem dX0_add_82 : decode cX0_add 82 = .ok (.aload_n 0, 1) := by decide +kernel
theorem dX0_add_83 : decode cX0_add 83 = .ok (.getfield 56, 3) := by decide +kernel
theorem dX0_add_86 : decode cX0_add 86 = .ok (.iload 5, 2) := by decide +kernel
theorem dX0_add_88 : decode cX0_add 88 = .ok (.iconst (-1), 1) := by decide +kernel
theorem dX0_add_89 : decode cX0_add 89 = .ok (.iastore, 1) := by decide +kernel
theorem dX0_add_90 : decode cX0_add 90 = .ok (.iload 5, 2) := by decide +kernel
theorem dX0_add_92 : decode cX0_add 92 = .ok (.ireturn, 1) := by decide +kernel
theorem dX0_clear_0 : decode cX0_clear 0 = .ok (.aload_n 0, 1) := by decide +kernel
theorem dX0_clear_1 : decode cX0_clear 1 = .ok (.iconst 0, 1) := by decide +kernel
theorem dX0_clear_2 : decode cX0_clear 2 = .ok (.putfield 9, 3) := by decide +kernel
theorem dX0_clear_5 : decode cX0_clear 5 = .ok (.aload_n 0, 1) := by decide +kernel
theorem dX0_clear_6 : decode cX0_clear 6 = .ok (.iconst 0, 1) := by decide +kernel
theorem dX0_clear_7 : decode cX0_clear 7 = .ok (.putfield 15, 3) := by decide +kernel
theorem dX0_clear_10 : decode cX0_clear 10 = .ok (.aload_n 0, 1) := by decide +kernel
theorem dX0_clear_11 : decode cX0_clear 11 = .ok (.lconst 0, 1) := by decide +kernel
theorem dX0_clear_12 : decode cX0_clear 12 = .ok (.putfield 18, 3) := by decide +kernel
theorem dX0_clear_15 : decode cX0_clear 15 = .ok (.aload_n 0, 1) := by decide +kernel
theorem dX0_clear_16 : decode cX0_clear 16 = .ok (.iconst 0, 1) := by decide +kernel
theorem dX0_clear_17 : decode cX0_clear 17 = .ok (.putfield 22, 3) := by decide +kernel
theorem dX0_clear_20 : decode cX0_clear 20 = .ok (.aload_n 0, 1) := by decide +kernel
theorem dX0_clear_21 : decode cX0_clear 21 = .ok (.iconst 0, 1) := by decide +kernel
theorem dX0_clear_22 : decode cX0_clear 22 = .ok (.putfield 25, 3) := by decide +kernel
theorem dX0_clear_25 : decode cX0_clear 25 = .ok (.return_, 1) := by decide +kernel
theorem dX3_readCondition_0 : decode cX3_readCondition 0 = .ok (.aload_n 0, 1) := by decide +kernel
theorem dX3_readCondition_1 : decode cX3_readCondition 1 = .ok (.getfield 46, 3) := by decide +kernel
theorem dX3_readCondition_4 : decode cX3_readCondition 4 = .ok (.getfield 175, 3) := by decide +kernel
theorem dX3_readCondition_7 : decode cX3_readCondition 7 = .ok (.iload_n 1, 1) := by decide +kernel
theorem dX3_readCondition_8 : decode cX3_readCondition 8 = .ok (.aload_n 0, 1) := by decide +kernel
theorem dX3_readCondition_9 : decode cX3_readCondition 9 = .ok (.invokevirtual 178, 3) := by decide +kernel
theorem dX3_readCondition_12 : decode cX3_readCondition 12 = .ok (.iastore, 1) := by decide +kernel
theorem dX3_readCondition_13 : decode cX3_readCondition 13 = .ok (.aload_n 0, 1) := by decide +kernel
theorem dX3_readCondition_14 : decode cX3_readCondition 14 = .ok (.bipush 60, 2) := by decide +kernel
theorem dX3_readCondition_16 : decode cX3_readCondition 16 = .ok (.invokevirtual 181, 3) := by decide +kernel
theorem dX3_readCondition_19 : decode cX3_readCondition 19 = .ok (.aload_n 0, 1) := by decide +kernel
theorem dX3_readCondition_20 : decode cX3_readCondition 20 = .ok (.getfield 46, 3) := by decide +kernel
theorem dX3_readCondition_23 : decode cX3_readCondition 23 = .ok (.getfield 184, 3) := by decide +kernel
theorem dX3_readCondition_26 : decode cX3_readCondition 26 = .ok (.iload_n 1, 1) := by decide +kernel
theorem dX3_readCondition_27 : decode cX3_readCondition 27 = .ok (.aload_n 0, 1) := by decide +kernel
theorem dX3_readCondition_28 : decode cX3_readCondition 28 = .ok (.invokevirtual 178, 3) := by decide +kernel
theorem dX3_readCondition_31 : decode cX3_readCondition 31 = .ok (.iastore, 1) := by decide +kernel
theorem dX3_readCondition_32 : decode cX3_readCondition 32 = .ok (.aload_n 0, 1) := by decide +kernel
theorem dX3_readCondition_33 : decode cX3_readCondition 33 = .ok (.iload_n 2, 1) := by decide +kernel
theorem dX3_readCondition_34 : decode cX3_readCondition 34 = .ok (.iconst 0, 1) := by decide +kernel
theorem dX3_readCondition_35 : decode cX3_readCondition 35 = .ok (.invokevirtual 118, 3) := by decide +kernel
theorem dX3_readCondition_38 : decode cX3_readCondition 38 = .ok (.return_, 1) := by decide +kernel
theorem dX3_readNumbers_0 : decode cX3_readNumbers 0 = .ok (.aload_n 0, 1) := by decide +kernel
theorem dX3_readNumbers_1 : decode cX3_readNumbers 1 = .ok (.getfield 46, 3) := by decide +kernel
theorem dX3_readNumbers_4 : decode cX3_readNumbers 4 = .ok (.getfield 175, 3) := by decide +kernel
theorem dX3_readNumbers_7 : decode cX3_readNumbers 7 = .ok (.iload_n 1, 1) := by decide +kernel
theorem dX3_readNumbers_8 : decode cX3_readNumbers 8 = .ok (.aload_n 0, 1) := by decide +kernel
theorem dX3_readNumbers_9 : decode cX3_readNumbers 9 = .ok (.invokevirtual 178, 3) := by decide +kernel
theorem dX3_readNumbers_12 : decode cX3_readNumbers 12 = .ok (.iastore, 1) := by decide +kernel
theorem dX3_readNumbers_13 : decode cX3_readNumbers 13 = .ok (.aload_n 0, 1) := by decide +kernel
theorem dX3_readNumbers_14 : decode cX3_readNumbers 14 = .ok (.invokevirtual 66, 3) := by decide +kernel
theorem dX3_readNumbers_17 : decode cX3_readNumbers 17 = .ok (.istore_n 2, 1) := by decide +kernel
theorem dX3_readNumbers_18 : decode cX3_readNumbers 18 = .ok (.iload_n 2, 1) := by decide +kernel
theorem dX3_readNumbers_19 : decode cX3_readNumbers 19 = .ok (.bipush 43, 2) := by decide +kernel
theorem dX3_readNumbers_21 : decode cX3_readNumbers 21 = .ok (.if_icmp .eq 21, 3) := by decide +kernel
theorem dX3_readNumbers_24 : decode cX3_readNumbers 24 = .ok (.iload_n 2, 1) := by decide +kernel
theorem dX3_readNumbers_25 : decode cX3_readNumbers 25 = .ok (.bipush 45, 2) := by decide +kernel
theorem dX3_readNumbers_27 : decode cX3_readNumbers 27 = .ok (.if_icmp .eq 15, 3) := by decide +kernel
theorem dX3_readNumbers_30 : decode cX3_readNumbers 30 = .ok (.iload_n 2, 1) := by decide +kernel
theorem dX3_readNumbers_31 : decode cX3_readNumbers 31 = .ok (.bipush 42, 2) := by decide +kernel
theorem dX3_readNumbers_33 : decode cX3_readNumbers 33 = .ok (.if_icmp .eq 9, 3) := by decide +kernel
theorem dX3_readNumbers_36 : decode cX3_readNumbers 36 = .ok (.iload_n 2, 1) := by decide +kernel
theorem dX3_readNumbers_37 : decode cX3_readNumbers 37 = .ok (.bipush 60, 2) := by decide +kernel
theorem dX3_readNumbers_39 : decode cX3_readNumbers 39 = .ok (.if_icmp .ne 36, 3) := by decide +kernel
theorem dX3_readNumbers_42 : decode cX3_readNumbers 42 = .ok (.aload_n 0, 1) := by decide +kernel
theorem dX3_readNumbers_43 : decode cX3_readNumbers 43 = .ok (.dup, 1) := by decide +kernel
theorem dX3_readNumbers_44 : decode cX3_readNumbers 44 = .ok (.getfield 19, 3) := by decide +kernel
theorem dX3_readNumbers_47 : decode cX3_readNumbers 47 = .ok (.iconst 1, 1) := by decide +kernel
theorem dX3_readNumbers_48 : decode cX3_readNumbers 48 = .ok (.iadd, 1) := by decide +kernel
theorem dX3_readNumbers_49 : decode cX3_readNumbers 49 = .ok (.putfield 19, 3) := by decide +kernel
theorem dX3_readNumbers_52 : decode cX3_readNumbers 52 = .ok (.aload_n 0, 1) := by decide +kernel
theorem dX3_readNumbers_53 : decode cX3_readNumbers 53 = .ok (.getfield 46, 3) := by decide +kernel
theorem dX3_readNumbers_56 : decode cX3_readNumbers 56 = .ok (.getfield 207, 3) := by decide +kernel
theorem dX3_readNumbers_59 : decode cX3_readNumbers 59 = .ok (.iload_n 1, 1) := by decide +kernel
theorem dX3_readNumbers_60 : decode cX3_readNumbers 60 = .ok (.iload_n 2, 1) := by decide +kernel
theorem dX3_readNumbers_61 : decode cX3_readNumbers 61 = .ok (.iastore, 1) := by decide +kernel
theorem dX3_readNumbers_62 : decode cX3_readNumbers 62 = .ok (.aload_n 0, 1) := by decide +kernel
theorem dX3_readNumbers_63 : decode cX3_readNumbers 63 = .ok (.getfield 46, 3) := by decide +kernel
theorem dX3_readNumbers_66 : decode cX3_readNumbers 66 = .ok (.getfield 184, 3) := by decide +kernel
theorem dX3_readNumbers_69 : decode cX3_readNumbers 69 = .ok (.iload_n 1, 1) := by decide +kernel
theorem dX3_readNumbers_70 : decode cX3_readNumbers 70 = .ok (.aload_n 0, 1) := by decide +kernel
theorem dX3_readNumbers_71 : decode cX3_readNumbers 71 = .ok (.invokevirtual 178, 3) := by decide +kernel
theorem dX3_readNumbers_74 : decode cX3_readNumbers 74 = .ok (.iastore, 1) := by decide +kernel
theorem dX3_readNumbers_75 : decode cX3_readNumbers 75 = .ok (.return_, 1) := by decide +kernel
theorem dX3_readTry_0 : decode cX3_readTry 0 = .ok (.aload_n 0, 1) := by decide +kernel
theorem dX3_readTry_1 : decode cX3_readTry 1 = .ok (.iconst (-1), 1) := by decide +kernel
theorem dX3_readTry_2 : decode cX3_readTry 2 = .ok (.invokevirtual 157, 3) := by decide +kernel
theorem dX3_readTry_5 : decode cX3_readTry 5 = .ok (.istore_n 1, 1) := by decide +kernel
theorem dX3_readTry_6 : decode cX3_readTry 6 = .ok (.aload_n 0, 1) := by decide +kernel
theorem dX3_readTry_7 : decode cX3_readTry 7 = .ok (.dup, 1) := by decide +kernel
theorem dX3_readTry_8 : decode cX3_readTry 8 = .ok (.getfield 19, 3) := by decide +kernel
theorem dX3_readTry_11 : decode cX3_readTry 11 = .ok (.iconst 1, 1) := by decide +kernel
theorem dX3_readTry_12 : decode cX3_readTry 12 = .ok (.iadd, 1) := by decide +kernel
theorem dX3_readTry_13 : decode cX3_readTry 13 = .ok (.putfield 19, 3) := by decide +kernel
theorem dX3_readTry_16 : decode cX3_readTry 16 = .ok (.aload_n 0, 1) := by decide +kernel
theorem dX3_readTry_17 : decode cX3_readTry 17 = .ok (.iload_n 1, 1) := by decide +kernel
theorem dX3_readTry_18 : decode cX3_readTry 18 = .ok (.iconst 0, 1) := by decide +kernel
theorem dX3_readTry_19 : decode cX3_readTry 19 = .ok (.invokevirtual 118, 3) := by decide +kernel
theorem dX3_readTry_22 : decode cX3_readTry 22 = .ok (.return_, 1) := by decide +kernel
set_option maxHeartbeats 4000000 in
set_option maxRecDepth 100000 in
theorem s_X0_clear (l : Launch) (d : Nat) {P : PP} {h : HP} (hv : Iv P h) (c1 : Nat) (hc1 : c1 = 2 ∨ c1 = 18) : Mt l yX0_clear cX0_clear 1 none (d + 1) [.ref c1] h 0 0 (fun r h' => r = none ∧ Iv P h' ∧ ((h'.2.1 34 2).toInt = (h.2.1 34 2).toInt) ∧ ((h'.2.1 34 1).toInt = (h.2.1 34 1).toInt) ∧ ((h'.2.1 34 7).toInt = (h.2.1 34 7).toInt)) := by
  refine Mt_iv hv (by decide) (Nat.le_of_ble_eq_true rfl) ?_
  show Go l RX0 cX0_clear 1 (g_rm (d + 1) 0 0) "clear" none 117 0 0 (fun _ _ => True) (fun r h' => r = none ∧ Iv P h' ∧ ((h'.2.1 34 2).toInt = (h.2.1 34 2).toInt) ∧ ((h'.2.1 34 1).toInt = (h.2.1 34 1).toInt) ∧ ((h'.2.1 34 7).toInt = (h.2.1 34 7).toInt)) 0 0 [(0, .ref c1)] [] h
  obtain ⟨u34_2, u34_2w⟩ : ∃ v : Int32, v = h.2.1 34 2 := ⟨_, rfl⟩
  have u34_2e : (h.2.1 34 2).toInt = u34_2.toInt := by rw [u34_2w]
  have u34_2l : 0 ≤ u34_2.toInt := by rw [u34_2w]; exact (hv.2.1 34 2).1
  have u34_2u : u34_2.toInt ≤ 500 := by rw [u34_2w]; exact (hv.2.1 34 2).2
  obtain ⟨u34_1, u34_1w⟩ : ∃ v : Int32, v = h.2.1 34 1 := ⟨_, rfl⟩
  have u34_1e : (h.2.1 34 1).toInt = u34_1.toInt := by rw [u34_1w]
  have u34_1l : 0 ≤ u34_1.toInt := by rw [u34_1w]; exact (hv.2.1 34 1).1
  have u34_1u : u34_1.toInt ≤ 500 := by rw [u34_1w]; exact (hv.2.1 34 1).2
  obtain ⟨u34_7, u34_7w⟩ : ∃ v : Int32, v = h.2.1 34 7 := ⟨_, rfl⟩
  have u34_7e : (h.2.1 34 7).toInt = u34_7.toInt := by rw [u34_7w]
  have u34_7l : 0 ≤ u34_7.toInt := by rw [u34_7w]; exact (hv.2.1 34 7).1
  have u34_7u : u34_7.toInt ≤ 7 := by rw [u34_7w]; exact (hv.2.1 34 7).2
  refine go_aload_n (pc := 0) rfl dX0_clear_0 ?_
  refine go_iconst (pc := 1) (v := 0) (by decide) dX0_clear_1 ?_
  refine gi_put (pc := 2) (lo := 0) (hi := 40) hv (ti_c (v := 0) (a := 0) (by decide)) (fP_X0_9 _) (by rcases hc1 with rfl | rfl <;> rfl) (Nat.le_of_ble_eq_true rfl) rfl (by rcases hc1 with rfl | rfl <;> rfl) (by omega) (by omega) rfl rfl (by rcases hc1 with rfl | rfl <;> decide) (by rcases hc1 with rfl | rfl <;> decide) (by rcases hc1 with rfl | rfl <;> decide) (by rcases hc1 with rfl | rfl <;> decide) dX0_clear_2 (fun h1 hv1 hv1e => ?_)
  refine go_aload_n (pc := 5) rfl dX0_clear_5 ?_
  refine go_iconst (pc := 6) (v := 0) (by decide) dX0_clear_6 ?_
  refine gi_put (pc := 7) (lo := 0) (hi := 5) hv1 (ti_c (v := 0) (a := 0) (by decide)) (fP_X0_15 _) (by rcases hc1 with rfl | rfl <;> rfl) (Nat.le_of_ble_eq_true rfl) rfl (by rcases hc1 with rfl | rfl <;> rfl) (by omega) (by omega) rfl rfl (by rcases hc1 with rfl | rfl <;> decide) (by rcases hc1 with rfl | rfl <;> decide) (by rcases hc1 with rfl | rfl <;> decide) (by rcases hc1 with rfl | rfl <;> decide) dX0_clear_7 (fun h2 hv2 hv2e => ?_)
  refine go_aload_n (pc := 10) rfl dX0_clear_10 ?_
  refine go_lconst (pc := 11) (v := 0) (by decide) dX0_clear_11 ?_
  refine gi_putL (pc := 12) hv2 (fP_X0_18 _) (by rcases hc1 with rfl | rfl <;> rfl) (Nat.le_of_ble_eq_true rfl) rfl rfl rfl dX0_clear_12 (fun h3 hv3 hv3e => ?_)
  refine go_aload_n (pc := 15) rfl dX0_clear_15 ?_
  refine go_iconst (pc := 16) (v := 0) (by decide) dX0_clear_16 ?_
  refine gi_put (pc := 17) (lo := -2147483648) (hi := 2147483647) hv3 (ti_c (v := 0) (a := 0) (by decide)) (fP_X0_22 _) (by rcases hc1 with rfl | rfl <;> rfl) (Nat.le_of_ble_eq_true rfl) rfl (by rcases hc1 with rfl | rfl <;> rfl) (ti_ge (ti_c (v := 0) (a := 0) (by decide))) (ti_le2 (ti_c (v := 0) (a := 0) (by decide))) rfl rfl (by rcases hc1 with rfl | rfl <;> decide) (by rcases hc1 with rfl | rfl <;> decide) (by rcases hc1 with rfl | rfl <;> decide) (by rcases hc1 with rfl | rfl <;> decide) dX0_clear_17 (fun h4 hv4 hv4e => ?_)
  refine go_aload_n (pc := 20) rfl dX0_clear_20 ?_
  refine go_iconst (pc := 21) (v := 0) (by decide) dX0_clear_21 ?_
  refine gi_put (pc := 22) (lo := -2147483648) (hi := 2147483647) hv4 (ti_c (v := 0) (a := 0) (by decide)) (fP_X0_25 _) (by rcases hc1 with rfl | rfl <;> rfl) (Nat.le_of_ble_eq_true rfl) rfl (by rcases hc1 with rfl | rfl <;> rfl) (ti_ge (ti_c (v := 0) (a := 0) (by decide))) (ti_le2 (ti_c (v := 0) (a := 0) (by decide))) rfl rfl (by rcases hc1 with rfl | rfl <;> decide) (by rcases hc1 with rfl | rfl <;> decide) (by rcases hc1 with rfl | rfl <;> decide) (by rcases hc1 with rfl | rfl <;> decide) dX0_clear_22 (fun h5 hv5 hv5e => ?_)
  have g6 : (0 : Int) ≤ (h5.2.1 34 1).toInt := (hv5.2.1 34 1).1
  have g7 : (h5.2.1 34 1).toInt ≤ 500 := (hv5.2.1 34 1).2
  have g8 : (0 : Int) ≤ (h5.2.1 34 2).toInt := (hv5.2.1 34 2).1
  have g9 : (h5.2.1 34 2).toInt ≤ 500 := (hv5.2.1 34 2).2
  have g10 : (0 : Int) ≤ (h5.2.1 34 7).toInt := (hv5.2.1 34 7).1
  have g11 : (h5.2.1 34 7).toInt ≤ 7 := (hv5.2.1 34 7).2
  have g12 : (h5.2.1 34 2).toInt = u34_2.toInt := by rw [← (show u34_2 = h5.2.1 34 2 from (show u34_2 = h5.2.1 34 2 from by rw [hv5e]; exact (g_iIc (by omega) (by decide) (show u34_2 = h4.2.1 34 2 from by rw [hv4e]; exact (g_iIc (by omega) (by decide) (show u34_2 = h3.2.1 34 2 from by rw [hv3e]; exact (show u34_2 = h2.2.1 34 2 from by rw [hv2e]; exact (g_iIc (by omega) (by decide) (show u34_2 = h1.2.1 34 2 from by rw [hv1e]; exact (g_iIc (by omega) (by decide) u34_2w.symm).symm).symm).symm)).symm).symm).symm).symm))] <;> exact (ti_rfl u34_2)
  have g13 : (h5.2.1 34 1).toInt = u34_1.toInt := by rw [← (show u34_1 = h5.2.1 34 1 from (show u34_1 = h5.2.1 34 1 from by rw [hv5e]; exact (g_iIc (by omega) (by decide) (show u34_1 = h4.2.1 34 1 from by rw [hv4e]; exact (g_iIc (by omega) (by decide) (show u34_1 = h3.2.1 34 1 from by rw [hv3e]; exact (show u34_1 = h2.2.1 34 1 from by rw [hv2e]; exact (g_iIc (by omega) (by decide) (show u34_1 = h1.2.1 34 1 from by rw [hv1e]; exact (g_iIc (by omega) (by decide) u34_1w.symm).symm).symm).symm)).symm).symm).symm).symm))] <;> exact (ti_rfl u34_1)
  have g14 : (h5.2.1 34 7).toInt = u34_7.toInt := by rw [← (show u34_7 = h5.2.1 34 7 from (show u34_7 = h5.2.1 34 7 from by rw [hv5e]; exact (g_iIc (by omega) (by decide) (show u34_7 = h4.2.1 34 7 from by rw [hv4e]; exact (g_iIc (by omega) (by decide) (show u34_7 = h3.2.1 34 7 from by rw [hv3e]; exact (show u34_7 = h2.2.1 34 7 from by rw [hv2e]; exact (g_iIc (by omega) (by decide) (show u34_7 = h1.2.1 34 7 from by rw [hv1e]; exact (g_iIc (by omega) (by decide) u34_7w.symm).symm).symm).symm)).symm).symm).symm).symm))] <;> exact (ti_rfl u34_7)
  exact gi_vret (pc := 25) ⟨rfl, hv5, (by omega), (by omega), (by omega)⟩ hv5 dX0_clear_25
set_option maxHeartbeats 4000000 in
set_option maxRecDepth 100000 in
theorem s_X3_readNumbers (l : Launch) (d : Nat) {P : PP} {h : HP} (hv : Iv P h) (a2 : Int32) (a2l : 0 ≤ a2.toInt) (a2u : a2.toInt ≤ 39) : Mt l yX3_readNumbers cX3_readNumbers 3 none (d + 4) [.ref 34, .int a2] h 0 0 (fun r h' => r = none ∧ Iv P h' ∧ ((h'.2.1 34 1).toInt = (h.2.1 34 1).toInt) ∧ ((h'.2.1 34 7).toInt = (h.2.1 34 7).toInt) ∧ (PR h → PR h')) := by
  refine Mt_iv hv (by decide) (Nat.le_of_ble_eq_true rfl) ?_
  show Go l RX3 cX3_readNumbers 3 (g_rm (d + 4) 0 0) "readNumbers" none 117 0 0 (fun _ _ => True) (fun r h' => r = none ∧ Iv P h' ∧ ((h'.2.1 34 1).toInt = (h.2.1 34 1).toInt) ∧ ((h'.2.1 34 7).toInt = (h.2.1 34 7).toInt) ∧ (PR h → PR h')) 0 0 [(0, .ref 34), (1, .int a2)] [] h
  have pr : PR h → PR h := id
  have key : ∀ n : Nat, (∀ (l1 : Int32) (l2 : Int32) (hx : HP), Iv P hx → 0 ≤ l1.toInt → l1.toInt ≤ 39 → 42 ≤ l2.toInt → l2.toInt ≤ 60 → ((hx.2.1 34 2).toInt ≤ 499) → (PR h → PR hx) → (hx.2.1 34 1).toInt = (h.2.1 34 1).toInt → (hx.2.1 34 7).toInt = (h.2.1 34 7).toInt → (0 : Int) ≤ (hx.2.1 34 1).toInt → (hx.2.1 34 1).toInt ≤ 500 → (0 : Int) ≤ (hx.2.1 34 2).toInt → (hx.2.1 34 2).toInt ≤ 500 → (0 : Int) ≤ (hx.2.1 34 7).toInt → (hx.2.1 34 7).toInt ≤ 7 → (2 : Int) < n → Go l RX3 cX3_readNumbers 3 (g_rm (d + 4) 0 0) "readNumbers" none 117 0 0 (fun _ _ => True) (fun r h' => r = none ∧ Iv P h' ∧ ((h'.2.1 34 1).toInt = (h.2.1 34 1).toInt) ∧ ((h'.2.1 34 7).toInt = (h.2.1 34 7).toInt) ∧ (PR h → PR h')) 0 42 [(0, .ref 34), (1, .int l1), (2, .int l2)] [] hx) ∧ (∀  (hx : HP), Iv P hx → (PR h → PR hx) → (hx.2.1 34 1).toInt = (h.2.1 34 1).toInt → (hx.2.1 34 7).toInt = (h.2.1 34 7).toInt → (0 : Int) ≤ (hx.2.1 34 1).toInt → (hx.2.1 34 1).toInt ≤ 500 → (0 : Int) ≤ (hx.2.1 34 2).toInt → (hx.2.1 34 2).toInt ≤ 500 → (0 : Int) ≤ (hx.2.1 34 7).toInt → (hx.2.1 34 7).toInt ≤ 7 → (1 : Int) < n → Go l RX3 cX3_readNumbers 3 (g_rm (d + 4) 0 0) "readNumbers" none 117 0 0 (fun _ _ => True) (fun r h' => r = none ∧ Iv P h' ∧ ((h'.2.1 34 1).toInt = (h.2.1 34 1).toInt) ∧ ((h'.2.1 34 7).toInt = (h.2.1 34 7).toInt) ∧ (PR h → PR h')) 0 75 [] [] hx) := by
    intro n
    induction n with
    | zero => exact ⟨(by intros; omega), (by intros; omega)⟩
    | succ n ih =>
      refine ⟨?_, ?_⟩
      ·
        intro l1 l2 hx hvx l1l l1u l2l l2u x0 prx t0 t1 y0l y0u y1l y1u y2l y2u hm
        obtain ⟨u34_1, u34_1w⟩ : ∃ v : Int32, v = hx.2.1 34 1 := ⟨_, rfl⟩
        have u34_1e : (hx.2.1 34 1).toInt = u34_1.toInt := by rw [u34_1w]
        have u34_1l : 0 ≤ u34_1.toInt := by rw [u34_1w]; exact (hvx.2.1 34 1).1
        have u34_1u : u34_1.toInt ≤ 500 := by rw [u34_1w]; exact (hvx.2.1 34 1).2
        obtain ⟨u34_7, u34_7w⟩ : ∃ v : Int32, v = hx.2.1 34 7 := ⟨_, rfl⟩
        have u34_7e : (hx.2.1 34 7).toInt = u34_7.toInt := by rw [u34_7w]
        have u34_7l : 0 ≤ u34_7.toInt := by rw [u34_7w]; exact (hvx.2.1 34 7).1
        have u34_7u : u34_7.toInt ≤ 7 := by rw [u34_7w]; exact (hvx.2.1 34 7).2
        refine go_aload_n (pc := 42) rfl dX3_readNumbers_42 ?_
        refine go_dup (pc := 43) rfl dX3_readNumbers_43 ?_
        refine gi_get (pc := 44) (lo := 0) (hi := 500) hvx fL_X3_19 rfl (Nat.le_of_ble_eq_true rfl) rfl rfl dX3_readNumbers_44 (fun v1 v1l v1u v1w => ?_)
        have g2 : (hx.2.1 34 2).toInt = v1.toInt := by rw [v1w]
        refine go_iconst (pc := 47) (v := 1) (by decide) dX3_readNumbers_47 ?_
        refine gf_iadd (pc := 48) (ti_rfl v1) (ti_c (v := 1) (a := 1) (by decide)) (by omega) (by omega) dX3_readNumbers_48 (fun v3 e4 => ?_)
        refine gi_put (pc := 49) (lo := 0) (hi := 500) hvx e4 (fP_X3_19 _) rfl (Nat.le_of_ble_eq_true rfl) rfl rfl (by omega) (by omega) rfl rfl (by decide) (by decide) (by decide) (by decide) dX3_readNumbers_49 (fun h5 hv5 hv5e => ?_)
        have pr5 : PR h → PR h5 := fun z => by rw [hv5e]; exact PR.put hvx (prx z) (by omega)
        refine go_aload_n (pc := 52) rfl dX3_readNumbers_52 ?_
        refine gi_getC (pc := 53) hv5 fL_X3_46 rfl (Nat.le_of_ble_eq_true rfl) rfl (by decide) dX3_readNumbers_53 (fun c6 hc6 fc6 => ?_)
        refine gi_getF (pc := 56) (q := c6 + 8) hv5 fL_X3_207 (by rcases hc6 with rfl | rfl <;> rfl) (Nat.le_of_ble_eq_true rfl) rfl (by rcases hc6 with rfl | rfl <;> exact hv5.rf (by decide)) dX3_readNumbers_56 ?_
        refine go_iload_n (pc := 59) rfl dX3_readNumbers_59 ?_
        refine go_iload_n (pc := 60) rfl dX3_readNumbers_60 ?_
        refine gi_iast (pc := 61) (lo := -2147483648) (hi := 2147483647) (len := 40) hv5 (ti_rfl l1) (ti_rfl l2) (by rcases hc6 with rfl | rfl <;> rfl) (by omega) (by omega) (fun _ => by rcases hc6 with rfl | rfl <;> rfl) (ti_ge (ti_rfl l2)) (ti_le2 (ti_rfl l2)) (by rcases hc6 with rfl | rfl <;> decide) dX3_readNumbers_61 (fun h7 hv7 hv7e => ?_)
        have pr7 : PR h → PR h7 := fun z => by rw [hv7e]; exact PR.put hv5 (pr5 z) (by omega)
        refine go_aload_n (pc := 62) rfl dX3_readNumbers_62 ?_
        refine gi_getC (pc := 63) hv7 fL_X3_46 rfl (Nat.le_of_ble_eq_true rfl) rfl (by decide) dX3_readNumbers_63 (fun c8 hc8 fc8 => ?_)
        refine gi_getF (pc := 66) (q := c8 + 10) hv7 fL_X3_184 (by rcases hc8 with rfl | rfl <;> rfl) (Nat.le_of_ble_eq_true rfl) rfl (by rcases hc8 with rfl | rfl <;> exact hv7.rf (by decide)) dX3_readNumbers_66 ?_
        refine go_iload_n (pc := 69) rfl dX3_readNumbers_69 ?_
        refine go_aload_n (pc := 70) rfl dX3_readNumbers_70 ?_
        have g9 : (0 : Int) ≤ (h7.2.1 34 1).toInt := (hv7.2.1 34 1).1
        have g10 : (h7.2.1 34 1).toInt ≤ 500 := (hv7.2.1 34 1).2
        have g11 : (0 : Int) ≤ (h7.2.1 34 2).toInt := (hv7.2.1 34 2).1
        have g12 : (h7.2.1 34 2).toInt ≤ 500 := (hv7.2.1 34 2).2
        have g13 : (0 : Int) ≤ (h7.2.1 34 7).toInt := (hv7.2.1 34 7).1
        have g14 : (h7.2.1 34 7).toInt ≤ 7 := (hv7.2.1 34 7).2
        have g15 : (h7.2.1 34 1).toInt = u34_1.toInt := by rw [← (show u34_1 = h7.2.1 34 1 from (show u34_1 = h7.2.1 34 1 from by rw [hv7e]; exact (g_iIc (by omega) (by decide) (show u34_1 = h5.2.1 34 1 from by rw [hv5e]; exact (g_iI rfl u34_1w.symm).symm).symm).symm))] <;> exact (ti_rfl u34_1)
        have g16 : (h7.2.1 34 7).toInt = u34_7.toInt := by rw [← (show u34_7 = h7.2.1 34 7 from (show u34_7 = h7.2.1 34 7 from by rw [hv7e]; exact (g_iIc (by omega) (by decide) (show u34_7 = h5.2.1 34 7 from by rw [hv5e]; exact (g_iI rfl u34_7w.symm).symm).symm).symm))] <;> exact (ti_rfl u34_7)
        have g17 : (h7.2.1 34 2).toInt = (v1.toInt + 1) := by rw [← (show v3 = h7.2.1 34 2 from (show v3 = h7.2.1 34 2 from by rw [hv7e]; exact (g_iIc (by omega) (by decide) (show v3 = h5.2.1 34 2 from by rw [hv5e]; exact g_iS.symm).symm).symm))] <;> exact e4
        refine go_invV (pc := 71) (sl := 0) (s_X3_readOperand l (d + 0) hv7 ) mL_X3_178 iM_X3_readOperand sM_X3_readOperand (hv7.sh rfl) rfl rfl rfl (Nat.le_of_ble_eq_true rfl) (show d + 0 + 3 + 1 ≤ d + 4 by omega) (show 8 + (3 + 11) + 40 * (d + 0 + 3) ≤ 40 * (d + 4) by omega) (g_c0 hv7.ln) (Nat.le_of_ble_eq_true rfl) dX3_readNumbers_71 ?_
        intro r h18 hq _
        obtain ⟨v21, rfl, v21l, v21u, hv18, f19, f20, pt18⟩ := hq
        have pr18 : PR h → PR h18 := fun z => pt18 (pr7 z)
        obtain ⟨u22, u22w⟩ : ∃ v : Int32, v = h18.2.1 34 1 := ⟨_, rfl⟩
        have u22e : (h18.2.1 34 1).toInt = u22.toInt := by rw [u22w]
        have u22l : 0 ≤ u22.toInt := by rw [u22w]; exact (hv18.2.1 34 1).1
        have u22u : u22.toInt ≤ 500 := by rw [u22w]; exact (hv18.2.1 34 1).2
        obtain ⟨u23, u23w⟩ : ∃ v : Int32, v = h18.2.1 34 2 := ⟨_, rfl⟩
        have u23e : (h18.2.1 34 2).toInt = u23.toInt := by rw [u23w]
        have u23l : 0 ≤ u23.toInt := by rw [u23w]; exact (hv18.2.1 34 2).1
        have u23u : u23.toInt ≤ 500 := by rw [u23w]; exact (hv18.2.1 34 2).2
        obtain ⟨u24, u24w⟩ : ∃ v : Int32, v = h18.2.1 34 7 := ⟨_, rfl⟩
        have u24e : (h18.2.1 34 7).toInt = u24.toInt := by rw [u24w]
        have u24l : 0 ≤ u24.toInt := by rw [u24w]; exact (hv18.2.1 34 7).1
        have u24u : u24.toInt ≤ 7 := by rw [u24w]; exact (hv18.2.1 34 7).2
        refine gi_iast (pc := 74) (lo := -2147483648) (hi := 2147483647) (len := 40) hv18 (ti_rfl l1) (ti_rfl v21) (by rcases hc8 with rfl | rfl <;> rfl) (by omega) (by omega) (fun _ => by rcases hc8 with rfl | rfl <;> rfl) (ti_ge (ti_rfl v21)) (ti_le2 (ti_rfl v21)) (by rcases hc8 with rfl | rfl <;> decide) dX3_readNumbers_74 (fun h25 hv25 hv25e => ?_)
        have pr25 : PR h → PR h25 := fun z => by rw [hv25e]; exact PR.put hv18 (pr18 z) (by omega)
        have g26 : (0 : Int) ≤ (h25.2.1 34 1).toInt := (hv25.2.1 34 1).1
        have g27 : (h25.2.1 34 1).toInt ≤ 500 := (hv25.2.1 34 1).2
        have g28 : (0 : Int) ≤ (h25.2.1 34 2).toInt := (hv25.2.1 34 2).1
        have g29 : (h25.2.1 34 2).toInt ≤ 500 := (hv25.2.1 34 2).2
        have g30 : (0 : Int) ≤ (h25.2.1 34 7).toInt := (hv25.2.1 34 7).1
        have g31 : (h25.2.1 34 7).toInt ≤ 7 := (hv25.2.1 34 7).2
        have g32 : (h25.2.1 34 1).toInt = u22.toInt := by rw [← (show u22 = h25.2.1 34 1 from (show u22 = h25.2.1 34 1 from by rw [hv25e]; exact (g_iIc (by omega) (by decide) u22w.symm).symm))] <;> exact (ti_rfl u22)
        have g33 : (h25.2.1 34 2).toInt = u23.toInt := by rw [← (show u23 = h25.2.1 34 2 from (show u23 = h25.2.1 34 2 from by rw [hv25e]; exact (g_iIc (by omega) (by decide) u23w.symm).symm))] <;> exact (ti_rfl u23)
        have g34 : (h25.2.1 34 7).toInt = u24.toInt := by rw [← (show u24 = h25.2.1 34 7 from (show u24 = h25.2.1 34 7 from by rw [hv25e]; exact (g_iIc (by omega) (by decide) u24w.symm).symm))] <;> exact (ti_rfl u24)
        exact go_lv rfl (ih.2  h25 hv25 pr25 (by omega) (by omega) (by omega) (by omega) (by omega) (by omega) (by omega) (by omega) (by omega))
      ·
        intro hx hvx prx t0 t1 y0l y0u y1l y1u y2l y2u hm
        obtain ⟨u34_1, u34_1w⟩ : ∃ v : Int32, v = hx.2.1 34 1 := ⟨_, rfl⟩
        have u34_1e : (hx.2.1 34 1).toInt = u34_1.toInt := by rw [u34_1w]
        have u34_1l : 0 ≤ u34_1.toInt := by rw [u34_1w]; exact (hvx.2.1 34 1).1
        have u34_1u : u34_1.toInt ≤ 500 := by rw [u34_1w]; exact (hvx.2.1 34 1).2
        obtain ⟨u34_7, u34_7w⟩ : ∃ v : Int32, v = hx.2.1 34 7 := ⟨_, rfl⟩
        have u34_7e : (hx.2.1 34 7).toInt = u34_7.toInt := by rw [u34_7w]
        have u34_7l : 0 ≤ u34_7.toInt := by rw [u34_7w]; exact (hvx.2.1 34 7).1
        have u34_7u : u34_7.toInt ≤ 7 := by rw [u34_7w]; exact (hvx.2.1 34 7).2
        have g35 : (0 : Int) ≤ (hx.2.1 34 1).toInt := (hvx.2.1 34 1).1
        have g36 : (hx.2.1 34 1).toInt ≤ 500 := (hvx.2.1 34 1).2
        have g37 : (0 : Int) ≤ (hx.2.1 34 2).toInt := (hvx.2.1 34 2).1
        have g38 : (hx.2.1 34 2).toInt ≤ 500 := (hvx.2.1 34 2).2
        have g39 : (0 : Int) ≤ (hx.2.1 34 7).toInt := (hvx.2.1 34 7).1
        have g40 : (hx.2.1 34 7).toInt ≤ 7 := (hvx.2.1 34 7).2
        have g41 : (hx.2.1 34 1).toInt = u34_1.toInt := by rw [← (show u34_1 = hx.2.1 34 1 from u34_1w)] <;> exact (ti_rfl u34_1)
        have g42 : (hx.2.1 34 7).toInt = u34_7.toInt := by rw [← (show u34_7 = hx.2.1 34 7 from u34_7w)] <;> exact (ti_rfl u34_7)
        exact gi_vret (pc := 75) ⟨rfl, hvx, (by omega), (by omega), prx⟩ hvx dX3_readNumbers_75
  obtain ⟨u34_1, u34_1w⟩ : ∃ v : Int32, v = h.2.1 34 1 := ⟨_, rfl⟩
  have u34_1e : (h.2.1 34 1).toInt = u34_1.toInt := by rw [u34_1w]
  have u34_1l : 0 ≤ u34_1.toInt := by rw [u34_1w]; exact (hv.2.1 34 1).1
  have u34_1u : u34_1.toInt ≤ 500 := by rw [u34_1w]; exact (hv.2.1 34 1).2
  obtain ⟨u34_7, u34_7w⟩ : ∃ v : Int32, v = h.2.1 34 7 := ⟨_, rfl⟩
  have u34_7e : (h.2.1 34 7).toInt = u34_7.toInt := by rw [u34_7w]
  have u34_7l : 0 ≤ u34_7.toInt := by rw [u34_7w]; exact (hv.2.1 34 7).1
  have u34_7u : u34_7.toInt ≤ 7 := by rw [u34_7w]; exact (hv.2.1 34 7).2
  refine go_aload_n (pc := 0) rfl dX3_readNumbers_0 ?_
  refine gi_getC (pc := 1) hv fL_X3_46 rfl (Nat.le_of_ble_eq_true rfl) rfl (by decide) dX3_readNumbers_1 (fun c43 hc43 fc43 => ?_)
  refine gi_getF (pc := 4) (q := c43 + 9) hv fL_X3_175 (by rcases hc43 with rfl | rfl <;> rfl) (Nat.le_of_ble_eq_true rfl) rfl (by rcases hc43 with rfl | rfl <;> exact hv.rf (by decide)) dX3_readNumbers_4 ?_
  refine go_iload_n (pc := 7) rfl dX3_readNumbers_7 ?_
  refine go_aload_n (pc := 8) rfl dX3_readNumbers_8 ?_
  have g44 : (0 : Int) ≤ (h.2.1 34 1).toInt := (hv.2.1 34 1).1
  have g45 : (h.2.1 34 1).toInt ≤ 500 := (hv.2.1 34 1).2
  have g46 : (0 : Int) ≤ (h.2.1 34 2).toInt := (hv.2.1 34 2).1
  have g47 : (h.2.1 34 2).toInt ≤ 500 := (hv.2.1 34 2).2
  have g48 : (0 : Int) ≤ (h.2.1 34 7).toInt := (hv.2.1 34 7).1
  have g49 : (h.2.1 34 7).toInt ≤ 7 := (hv.2.1 34 7).2
  have g50 : (h.2.1 34 1).toInt = u34_1.toInt := by rw [← (show u34_1 = h.2.1 34 1 from u34_1w)] <;> exact (ti_rfl u34_1)
  have g51 : (h.2.1 34 7).toInt = u34_7.toInt := by rw [← (show u34_7 = h.2.1 34 7 from u34_7w)] <;> exact (ti_rfl u34_7)
  refine go_invV (pc := 9) (sl := 0) (s_X3_readOperand l (d + 0) hv ) mL_X3_178 iM_X3_readOperand sM_X3_readOperand (hv.sh rfl) rfl rfl rfl (Nat.le_of_ble_eq_true rfl) (show d + 0 + 3 + 1 ≤ d + 4 by omega) (show 8 + (3 + 11) + 40 * (d + 0 + 3) ≤ 40 * (d + 4) by omega) (g_c0 hv.ln) (Nat.le_of_ble_eq_true rfl) dX3_readNumbers_9 ?_
  intro r h52 hq _
  obtain ⟨v55, rfl, v55l, v55u, hv52, f53, f54, pt52⟩ := hq
  have pr52 : PR h → PR h52 := fun z => pt52 (pr z)
  obtain ⟨u56, u56w⟩ : ∃ v : Int32, v = h52.2.1 34 1 := ⟨_, rfl⟩
  have u56e : (h52.2.1 34 1).toInt = u56.toInt := by rw [u56w]
  have u56l : 0 ≤ u56.toInt := by rw [u56w]; exact (hv52.2.1 34 1).1
  have u56u : u56.toInt ≤ 500 := by rw [u56w]; exact (hv52.2.1 34 1).2
  obtain ⟨u57, u57w⟩ : ∃ v : Int32, v = h52.2.1 34 2 := ⟨_, rfl⟩
  have u57e : (h52.2.1 34 2).toInt = u57.toInt := by rw [u57w]
  have u57l : 0 ≤ u57.toInt := by rw [u57w]; exact (hv52.2.1 34 2).1
  have u57u : u57.toInt ≤ 500 := by rw [u57w]; exact (hv52.2.1 34 2).2
  obtain ⟨u58, u58w⟩ : ∃ v : Int32, v = h52.2.1 34 7 := ⟨_, rfl⟩
  have u58e : (h52.2.1 34 7).toInt = u58.toInt := by rw [u58w]
  have u58l : 0 ≤ u58.toInt := by rw [u58w]; exact (hv52.2.1 34 7).1
  have u58u : u58.toInt ≤ 7 := by rw [u58w]; exact (hv52.2.1 34 7).2
  refine gi_iast (pc := 12) (lo := -2147483648) (hi := 2147483647) (len := 40) hv52 (ti_rfl a2) (ti_rfl v55) (by rcases hc43 with rfl | rfl <;> rfl) (by omega) (by omega) (fun _ => by rcases hc43 with rfl | rfl <;> rfl) (ti_ge (ti_rfl v55)) (ti_le2 (ti_rfl v55)) (by rcases hc43 with rfl | rfl <;> decide) dX3_readNumbers_12 (fun h59 hv59 hv59e => ?_)
  have pr59 : PR h → PR h59 := fun z => by rw [hv59e]; exact PR.put hv52 (pr52 z) (by omega)
  refine go_aload_n (pc := 13) rfl dX3_readNumbers_13 ?_
  have g60 : (0 : Int) ≤ (h59.2.1 34 1).toInt := (hv59.2.1 34 1).1
  have g61 : (h59.2.1 34 1).toInt ≤ 500 := (hv59.2.1 34 1).2
  have g62 : (0 : Int) ≤ (h59.2.1 34 2).toInt := (hv59.2.1 34 2).1
  have g63 : (h59.2.1 34 2).toInt ≤ 500 := (hv59.2.1 34 2).2
  have g64 : (0 : Int) ≤ (h59.2.1 34 7).toInt := (hv59.2.1 34 7).1
  have g65 : (h59.2.1 34 7).toInt ≤ 7 := (hv59.2.1 34 7).2
  have g66 : (h59.2.1 34 1).toInt = u56.toInt := by rw [← (show u56 = h59.2.1 34 1 from (show u56 = h59.2.1 34 1 from by rw [hv59e]; exact (g_iIc (by omega) (by decide) u56w.symm).symm))] <;> exact (ti_rfl u56)
  have g67 : (h59.2.1 34 2).toInt = u57.toInt := by rw [← (show u57 = h59.2.1 34 2 from (show u57 = h59.2.1 34 2 from by rw [hv59e]; exact (g_iIc (by omega) (by decide) u57w.symm).symm))] <;> exact (ti_rfl u57)
  have g68 : (h59.2.1 34 7).toInt = u58.toInt := by rw [← (show u58 = h59.2.1 34 7 from (show u58 = h59.2.1 34 7 from by rw [hv59e]; exact (g_iIc (by omega) (by decide) u58w.symm).symm))] <;> exact (ti_rfl u58)
  refine go_invV (pc := 14) (sl := 0) (s_X3_look l (d + 2) hv59 ) mL_X3_66 iM_X3_look sM_X3_look (hv59.sh rfl) rfl rfl rfl (Nat.le_of_ble_eq_true rfl) (show d + 2 + 1 + 1 ≤ d + 4 by omega) (show 8 + (1 + 11) + 40 * (d + 2 + 1) ≤ 40 * (d + 4) by omega) (g_c0 hv59.ln) (Nat.le_of_ble_eq_true rfl) dX3_readNumbers_14 ?_
  intro r h69 hq _
  obtain ⟨v73, rfl, v73l, v73u, hv69, f70, f71, f72, pt69⟩ := hq
  have pr69 : PR h → PR h69 := fun z => pt69 (pr59 z)
  obtain ⟨u74, u74w⟩ : ∃ v : Int32, v = h69.2.1 34 1 := ⟨_, rfl⟩
  have u74e : (h69.2.1 34 1).toInt = u74.toInt := by rw [u74w]
  have u74l : 0 ≤ u74.toInt := by rw [u74w]; exact (hv69.2.1 34 1).1
  have u74u : u74.toInt ≤ 500 := by rw [u74w]; exact (hv69.2.1 34 1).2
  obtain ⟨u75, u75w⟩ : ∃ v : Int32, v = h69.2.1 34 2 := ⟨_, rfl⟩
  have u75e : (h69.2.1 34 2).toInt = u75.toInt := by rw [u75w]
  have u75l : 0 ≤ u75.toInt := by rw [u75w]; exact (hv69.2.1 34 2).1
  have u75u : u75.toInt ≤ 500 := by rw [u75w]; exact (hv69.2.1 34 2).2
  obtain ⟨u76, u76w⟩ : ∃ v : Int32, v = h69.2.1 34 7 := ⟨_, rfl⟩
  have u76e : (h69.2.1 34 7).toInt = u76.toInt := by rw [u76w]
  have u76l : 0 ≤ u76.toInt := by rw [u76w]; exact (hv69.2.1 34 7).1
  have u76u : u76.toInt ≤ 7 := by rw [u76w]; exact (hv69.2.1 34 7).2
  refine go_istore_n (pc := 17) (Nat.le_of_ble_eq_true rfl) dX3_readNumbers_17 (go_lv (lv2 := [(0, .ref 34), (1, .int a2), (2, .int v73)]) rfl ?_)
  refine go_iload_n (pc := 18) rfl dX3_readNumbers_18 ?_
  refine go_bipush (pc := 19) (v := 43) (by decide) dX3_readNumbers_19 ?_
  refine gf_icmp_eq (pc := 21) (tgt := 42) (ti_rfl v73) (ti_c (v := 43) (a := 43) (by decide)) (by decide) dX3_readNumbers_21 (fun q77 => ?_) (fun q77 => ?_)
  ·
    have g78 : (0 : Int) ≤ (h69.2.1 34 1).toInt := (hv69.2.1 34 1).1
    have g79 : (h69.2.1 34 1).toInt ≤ 500 := (hv69.2.1 34 1).2
    have g80 : (0 : Int) ≤ (h69.2.1 34 2).toInt := (hv69.2.1 34 2).1
    have g81 : (h69.2.1 34 2).toInt ≤ 500 := (hv69.2.1 34 2).2
    have g82 : (0 : Int) ≤ (h69.2.1 34 7).toInt := (hv69.2.1 34 7).1
    have g83 : (h69.2.1 34 7).toInt ≤ 7 := (hv69.2.1 34 7).2
    have g84 : (h69.2.1 34 1).toInt = u74.toInt := by rw [← (show u74 = h69.2.1 34 1 from u74w)] <;> exact (ti_rfl u74)
    have g85 : (h69.2.1 34 2).toInt = u75.toInt := by rw [← (show u75 = h69.2.1 34 2 from u75w)] <;> exact (ti_rfl u75)
    have g86 : (h69.2.1 34 7).toInt = u76.toInt := by rw [← (show u76 = h69.2.1 34 7 from u76w)] <;> exact (ti_rfl u76)
    exact go_lv rfl ((key 15).1 a2 v73 h69 hv69 (by omega) (by omega) (by omega) (by omega) (by omega) pr69 (by omega) (by omega) (by omega) (by omega) (by omega) (by omega) (by omega) (by omega) (by omega))
  ·
    refine go_iload_n (pc := 24) rfl dX3_readNumbers_24 ?_
    refine go_bipush (pc := 25) (v := 45) (by decide) dX3_readNumbers_25 ?_
    refine gf_icmp_eq (pc := 27) (tgt := 42) (ti_rfl v73) (ti_c (v := 45) (a := 45) (by decide)) (by decide) dX3_readNumbers_27 (fun q87 => ?_) (fun q87 => ?_)
    ·
      have g88 : (0 : Int) ≤ (h69.2.1 34 1).toInt := (hv69.2.1 34 1).1
      have g89 : (h69.2.1 34 1).toInt ≤ 500 := (hv69.2.1 34 1).2
      have g90 : (0 : Int) ≤ (h69.2.1 34 2).toInt := (hv69.2.1 34 2).1
      have g91 : (h69.2.1 34 2).toInt ≤ 500 := (hv69.2.1 34 2).2
      have g92 : (0 : Int) ≤ (h69.2.1 34 7).toInt := (hv69.2.1 34 7).1
      have g93 : (h69.2.1 34 7).toInt ≤ 7 := (hv69.2.1 34 7).2
      have g94 : (h69.2.1 34 1).toInt = u74.toInt := by rw [← (show u74 = h69.2.1 34 1 from u74w)] <;> exact (ti_rfl u74)
      have g95 : (h69.2.1 34 2).toInt = u75.toInt := by rw [← (show u75 = h69.2.1 34 2 from u75w)] <;> exact (ti_rfl u75)
      have g96 : (h69.2.1 34 7).toInt = u76.toInt := by rw [← (show u76 = h69.2.1 34 7 from u76w)] <;> exact (ti_rfl u76)
      exact go_lv rfl ((key 15).1 a2 v73 h69 hv69 (by omega) (by omega) (by omega) (by omega) (by omega) pr69 (by omega) (by omega) (by omega) (by omega) (by omega) (by omega) (by omega) (by omega) (by omega))
    ·
      refine go_iload_n (pc := 30) rfl dX3_readNumbers_30 ?_
      refine go_bipush (pc := 31) (v := 42) (by decide) dX3_readNumbers_31 ?_
      refine gf_icmp_eq (pc := 33) (tgt := 42) (ti_rfl v73) (ti_c (v := 42) (a := 42) (by decide)) (by decide) dX3_readNumbers_33 (fun q97 => ?_) (fun q97 => ?_)
      ·
        have g98 : (0 : Int) ≤ (h69.2.1 34 1).toInt := (hv69.2.1 34 1).1
        have g99 : (h69.2.1 34 1).toInt ≤ 500 := (hv69.2.1 34 1).2
        have g100 : (0 : Int) ≤ (h69.2.1 34 2).toInt := (hv69.2.1 34 2).1
        have g101 : (h69.2.1 34 2).toInt ≤ 500 := (hv69.2.1 34 2).2
        have g102 : (0 : Int) ≤ (h69.2.1 34 7).toInt := (hv69.2.1 34 7).1
        have g103 : (h69.2.1 34 7).toInt ≤ 7 := (hv69.2.1 34 7).2
        have g104 : (h69.2.1 34 1).toInt = u74.toInt := by rw [← (show u74 = h69.2.1 34 1 from u74w)] <;> exact (ti_rfl u74)
        have g105 : (h69.2.1 34 2).toInt = u75.toInt := by rw [← (show u75 = h69.2.1 34 2 from u75w)] <;> exact (ti_rfl u75)
        have g106 : (h69.2.1 34 7).toInt = u76.toInt := by rw [← (show u76 = h69.2.1 34 7 from u76w)] <;> exact (ti_rfl u76)
        exact go_lv rfl ((key 15).1 a2 v73 h69 hv69 (by omega) (by omega) (by omega) (by omega) (by omega) pr69 (by omega) (by omega) (by omega) (by omega) (by omega) (by omega) (by omega) (by omega) (by omega))
      ·
        refine go_iload_n (pc := 36) rfl dX3_readNumbers_36 ?_
        refine go_bipush (pc := 37) (v := 60) (by decide) dX3_readNumbers_37 ?_
        refine gf_icmp_ne (pc := 39) (tgt := 75) (ti_rfl v73) (ti_c (v := 60) (a := 60) (by decide)) (by decide) dX3_readNumbers_39 (fun q107 => ?_) (fun q107 => ?_)
        ·
          have g108 : (0 : Int) ≤ (h69.2.1 34 1).toInt := (hv69.2.1 34 1).1
          have g109 : (h69.2.1 34 1).toInt ≤ 500 := (hv69.2.1 34 1).2
          have g110 : (0 : Int) ≤ (h69.2.1 34 2).toInt := (hv69.2.1 34 2).1
          have g111 : (h69.2.1 34 2).toInt ≤ 500 := (hv69.2.1 34 2).2
          have g112 : (0 : Int) ≤ (h69.2.1 34 7).toInt := (hv69.2.1 34 7).1
          have g113 : (h69.2.1 34 7).toInt ≤ 7 := (hv69.2.1 34 7).2
          have g114 : (h69.2.1 34 1).toInt = u74.toInt := by rw [← (show u74 = h69.2.1 34 1 from u74w)] <;> exact (ti_rfl u74)
          have g115 : (h69.2.1 34 2).toInt = u75.toInt := by rw [← (show u75 = h69.2.1 34 2 from u75w)] <;> exact (ti_rfl u75)
          have g116 : (h69.2.1 34 7).toInt = u76.toInt := by rw [← (show u76 = h69.2.1 34 7 from u76w)] <;> exact (ti_rfl u76)
          exact go_lv rfl ((key 15).2  h69 hv69 pr69 (by omega) (by omega) (by omega) (by omega) (by omega) (by omega) (by omega) (by omega) (by omega))
        ·
          have g117 : (0 : Int) ≤ (h69.2.1 34 1).toInt := (hv69.2.1 34 1).1
          have g118 : (h69.2.1 34 1).toInt ≤ 500 := (hv69.2.1 34 1).2
          have g119 : (0 : Int) ≤ (h69.2.1 34 2).toInt := (hv69.2.1 34 2).1
          have g120 : (h69.2.1 34 2).toInt ≤ 500 := (hv69.2.1 34 2).2
          have g121 : (0 : Int) ≤ (h69.2.1 34 7).toInt := (hv69.2.1 34 7).1
          have g122 : (h69.2.1 34 7).toInt ≤ 7 := (hv69.2.1 34 7).2
          have g123 : (h69.2.1 34 1).toInt = u74.toInt := by rw [← (show u74 = h69.2.1 34 1 from u74w)] <;> exact (ti_rfl u74)
          have g124 : (h69.2.1 34 2).toInt = u75.toInt := by rw [← (show u75 = h69.2.1 34 2 from u75w)] <;> exact (ti_rfl u75)
          have g125 : (h69.2.1 34 7).toInt = u76.toInt := by rw [← (show u76 = h69.2.1 34 7 from u76w)] <;> exact (ti_rfl u76)
          exact go_lv rfl ((key 15).1 a2 v73 h69 hv69 (by omega) (by omega) (by omega) (by omega) (by omega) pr69 (by omega) (by omega) (by omega) (by omega) (by omega) (by omega) (by omega) (by omega) (by omega))
set_option maxHeartbeats 4000000 in
set_option maxRecDepth 100000 in
theorem s_X3_readCondition (l : Launch) (d : Nat) {P : PP} {h : HP} (hv : Iv P h) (a2 : Int32) (a2l : 0 ≤ a2.toInt) (a2u : a2.toInt ≤ 39) (a3 : Int32) (a3l : -1 ≤ a3.toInt) (a3u : a3.toInt ≤ 127) : Mt l yX3_readCondition cX3_readCondition 3 none (d + 4) [.ref 34, .int a2, .int a3] h 0 0 (fun r h' => r = none ∧ Iv P h' ∧ (PR h → PR h')) := by
  refine Mt_iv hv (by decide) (Nat.le_of_ble_eq_true rfl) ?_
  show Go l RX3 cX3_readCondition 3 (g_rm (d + 4) 0 0) "readCondition" none 117 0 0 (fun _ _ => True) (fun r h' => r = none ∧ Iv P h' ∧ (PR h → PR h')) 0 0 [(0, .ref 34), (1, .int a2), (2, .int a3)] [] h
  have pr : PR h → PR h := id
  refine go_aload_n (pc := 0) rfl dX3_readCondition_0 ?_
  refine gi_getC (pc := 1) hv fL_X3_46 rfl (Nat.le_of_ble_eq_true rfl) rfl (by decide) dX3_readCondition_1 (fun c1 hc1 fc1 => ?_)
  refine gi_getF (pc := 4) (q := c1 + 9) hv fL_X3_175 (by rcases hc1 with rfl | rfl <;> rfl) (Nat.le_of_ble_eq_true rfl) rfl (by rcases hc1 with rfl | rfl <;> exact hv.rf (by decide)) dX3_readCondition_4 ?_
  refine go_iload_n (pc := 7) rfl dX3_readCondition_7 ?_
  refine go_aload_n (pc := 8) rfl dX3_readCondition_8 ?_
  refine go_invV (pc := 9) (sl := 0) (s_X3_readOperand l (d + 0) hv ) mL_X3_178 iM_X3_readOperand sM_X3_readOperand (hv.sh rfl) rfl rfl rfl (Nat.le_of_ble_eq_true rfl) (show d + 0 + 3 + 1 ≤ d + 4 by omega) (show 8 + (3 + 11) + 40 * (d + 0 + 3) ≤ 40 * (d + 4) by omega) (g_c0 hv.ln) (Nat.le_of_ble_eq_true rfl) dX3_readCondition_9 ?_
  intro r h2 hq _
  obtain ⟨v5, rfl, v5l, v5u, hv2, f3, f4, pt2⟩ := hq
  have pr2 : PR h → PR h2 := fun z => pt2 (pr z)
  refine gi_iast (pc := 12) (lo := -2147483648) (hi := 2147483647) (len := 40) hv2 (ti_rfl a2) (ti_rfl v5) (by rcases hc1 with rfl | rfl <;> rfl) (by omega) (by omega) (fun _ => by rcases hc1 with rfl | rfl <;> rfl) (ti_ge (ti_rfl v5)) (ti_le2 (ti_rfl v5)) (by rcases hc1 with rfl | rfl <;> decide) dX3_readCondition_12 (fun h6 hv6 hv6e => ?_)
  have pr6 : PR h → PR h6 := fun z => by rw [hv6e]; exact PR.put hv2 (pr2 z) (by omega)
  refine go_aload_n (pc := 13) rfl dX3_readCondition_13 ?_
  refine go_bipush (pc := 14) (v := 60) (by decide) dX3_readCondition_14 ?_
  refine go_invV (pc := 16) (sl := 0) (s_X3_take l (d + 1) hv6 60 (by rw [show (60 : Int32).toInt = 60 from (ti_c (v := 60) (a := 60) (by decide))]; omega) (by rw [show (60 : Int32).toInt = 60 from (ti_c (v := 60) (a := 60) (by decide))]; omega)) mL_X3_181 iM_X3_take sM_X3_take (hv6.sh rfl) rfl rfl rfl (Nat.le_of_ble_eq_true rfl) (show d + 1 + 2 + 1 ≤ d + 4 by omega) (show 8 + (2 + 11) + 40 * (d + 1 + 2) ≤ 40 * (d + 4) by omega) (g_c0 hv6.ln) (Nat.le_of_ble_eq_true rfl) dX3_readCondition_16 ?_
  intro r h7 hq _
  obtain ⟨rfl, hv7, f8, f9, pt7⟩ := hq
  have pr7 : PR h → PR h7 := fun z => pt7 (pr6 z)
  try rw [show (60 : Int32).toInt = 60 from (ti_c (v := 60) (a := 60) (by decide))] at f8
  try rw [show (60 : Int32).toInt = 60 from (ti_c (v := 60) (a := 60) (by decide))] at f9
  refine go_aload_n (pc := 19) rfl dX3_readCondition_19 ?_
  refine gi_getC (pc := 20) hv7 fL_X3_46 rfl (Nat.le_of_ble_eq_true rfl) rfl (by decide) dX3_readCondition_20 (fun c10 hc10 fc10 => ?_)
  refine gi_getF (pc := 23) (q := c10 + 10) hv7 fL_X3_184 (by rcases hc10 with rfl | rfl <;> rfl) (Nat.le_of_ble_eq_true rfl) rfl (by rcases hc10 with rfl | rfl <;> exact hv7.rf (by decide)) dX3_readCondition_23 ?_
  refine go_iload_n (pc := 26) rfl dX3_readCondition_26 ?_
  refine go_aload_n (pc := 27) rfl dX3_readCondition_27 ?_
  refine go_invV (pc := 28) (sl := 0) (s_X3_readOperand l (d + 0) hv7 ) mL_X3_178 iM_X3_readOperand sM_X3_readOperand (hv7.sh rfl) rfl rfl rfl (Nat.le_of_ble_eq_true rfl) (show d + 0 + 3 + 1 ≤ d + 4 by omega) (show 8 + (3 + 11) + 40 * (d + 0 + 3) ≤ 40 * (d + 4) by omega) (g_c0 hv7.ln) (Nat.le_of_ble_eq_true rfl) dX3_readCondition_28 ?_
  intro r h11 hq _
  obtain ⟨v14, rfl, v14l, v14u, hv11, f12, f13, pt11⟩ := hq
  have pr11 : PR h → PR h11 := fun z => pt11 (pr7 z)
  refine gi_iast (pc := 31) (lo := -2147483648) (hi := 2147483647) (len := 40) hv11 (ti_rfl a2) (ti_rfl v14) (by rcases hc10 with rfl | rfl <;> rfl) (by omega) (by omega) (fun _ => by rcases hc10 with rfl | rfl <;> rfl) (ti_ge (ti_rfl v14)) (ti_le2 (ti_rfl v14)) (by rcases hc10 with rfl | rfl <;> decide) dX3_readCondition_31 (fun h15 hv15 hv15e => ?_)
  have pr15 : PR h → PR h15 := fun z => by rw [hv15e]; exact PR.put hv11 (pr11 z) (by omega)
  refine go_aload_n (pc := 32) rfl dX3_readCondition_32 ?_
  refine go_iload_n (pc := 33) rfl dX3_readCondition_33 ?_
  refine go_iconst (pc := 34) (v := 0) (by decide) dX3_readCondition_34 ?_
  refine go_invV (pc := 35) (sl := 0) (s_X3_openBlock l (d + 1) hv15 a3 (by rw [show (a3 : Int32).toInt = a3.toInt from (ti_rfl a3)]; omega) (by rw [show (a3 : Int32).toInt = a3.toInt from (ti_rfl a3)]; omega) 0 (by rw [show (0 : Int32).toInt = 0 from (ti_c (v := 0) (a := 0) (by decide))]; omega) (by rw [show (0 : Int32).toInt = 0 from (ti_c (v := 0) (a := 0) (by decide))]; omega)) mL_X3_118 iM_X3_openBlock sM_X3_openBlock (hv15.sh rfl) rfl rfl rfl (Nat.le_of_ble_eq_true rfl) (show d + 1 + 2 + 1 ≤ d + 4 by omega) (show 8 + (3 + 11) + 40 * (d + 1 + 2) ≤ 40 * (d + 4) by omega) (g_c0 hv15.ln) (Nat.le_of_ble_eq_true rfl) dX3_readCondition_35 ?_
  intro r h16 hq _
  obtain ⟨rfl, hv16, pt16⟩ := hq
  have pr16 : PR h → PR h16 := fun z => pt16 (pr15 z)
  exact gi_vret (pc := 38) ⟨rfl, hv16, pr16⟩ hv16 dX3_readCondition_38
set_option maxHeartbeats 4000000 in
set_option maxRecDepth 100000 in
theorem s_X3_readTry (l : Launch) (d : Nat) {P : PP} {h : HP} (hv : Iv P h) (hp : 1 ≤ (h.2.1 34 7).toInt) (hp2 : (h.2.1 34 2).toInt ≤ 499) : Mt l yX3_readTry cX3_readTry 2 none (d + 3) [.ref 34] h 0 0 (fun r h' => r = none ∧ Iv P h' ∧ (PR h → PR h')) := by
  refine Mt_iv hv (by decide) (Nat.le_of_ble_eq_true rfl) ?_
  show Go l RX3 cX3_readTry 2 (g_rm (d + 3) 0 0) "readTry" none 117 0 0 (fun _ _ => True) (fun r h' => r = none ∧ Iv P h' ∧ (PR h → PR h')) 0 0 [(0, .ref 34)] [] h
  have pr : PR h → PR h := id
  refine go_aload_n (pc := 0) rfl dX3_readTry_0 ?_
  refine go_iconst (pc := 1) (v := (-1)) (by decide) dX3_readTry_1 ?_
  have g1 : (0 : Int) ≤ (h.2.1 34 2).toInt := (hv.2.1 34 2).1
  have g2 : (h.2.1 34 2).toInt ≤ 500 := (hv.2.1 34 2).2
  have g3 : (0 : Int) ≤ (h.2.1 34 7).toInt := (hv.2.1 34 7).1
  have g4 : (h.2.1 34 7).toInt ≤ 7 := (hv.2.1 34 7).2
  refine go_invV (pc := 2) (sl := 0) (s_X3_addItem l (d + 0) hv (-1) (by rw [show ((-1) : Int32).toInt = (-1) from (ti_c (v := (-1)) (a := (-1)) (by decide))]; omega) (by rw [show ((-1) : Int32).toInt = (-1) from (ti_c (v := (-1)) (a := (-1)) (by decide))]; omega) (by omega)) mL_X3_157 iM_X3_addItem sM_X3_addItem (hv.sh rfl) rfl rfl rfl (Nat.le_of_ble_eq_true rfl) (show d + 0 + 2 + 1 ≤ d + 3 by omega) (show 8 + (3 + 11) + 40 * (d + 0 + 2) ≤ 40 * (d + 3) by omega) (g_c0 hv.ln) (Nat.le_of_ble_eq_true rfl) dX3_readTry_2 ?_
  intro r h5 hq _
  obtain ⟨v9, rfl, v9l, v9u, hv5, f6, f7, f8, pt5⟩ := hq
  have pr5 : PR h → PR h5 := fun z => pt5 (pr z)
  try rw [show ((-1) : Int32).toInt = (-1) from (ti_c (v := (-1)) (a := (-1)) (by decide))] at f6
  try rw [show ((-1) : Int32).toInt = (-1) from (ti_c (v := (-1)) (a := (-1)) (by decide))] at f7
  try rw [show ((-1) : Int32).toInt = (-1) from (ti_c (v := (-1)) (a := (-1)) (by decide))] at f8
  obtain ⟨u10, u10w⟩ : ∃ v : Int32, v = h5.2.1 34 2 := ⟨_, rfl⟩
  have u10e : (h5.2.1 34 2).toInt = u10.toInt := by rw [u10w]
  have u10l : 0 ≤ u10.toInt := by rw [u10w]; exact (hv5.2.1 34 2).1
  have u10u : u10.toInt ≤ 500 := by rw [u10w]; exact (hv5.2.1 34 2).2
  obtain ⟨u11, u11w⟩ : ∃ v : Int32, v = h5.2.1 34 7 := ⟨_, rfl⟩
  have u11e : (h5.2.1 34 7).toInt = u11.toInt := by rw [u11w]
  have u11l : 0 ≤ u11.toInt := by rw [u11w]; exact (hv5.2.1 34 7).1
  have u11u : u11.toInt ≤ 7 := by rw [u11w]; exact (hv5.2.1 34 7).2
  refine go_istore_n (pc := 5) (Nat.le_of_ble_eq_true rfl) dX3_readTry_5 (go_lv (lv2 := [(0, .ref 34), (1, .int v9)]) rfl ?_)
  refine go_aload_n (pc := 6) rfl dX3_readTry_6 ?_
  refine go_dup (pc := 7) rfl dX3_readTry_7 ?_
  refine gi_get (pc := 8) (lo := 0) (hi := 500) hv5 fL_X3_19 rfl (Nat.le_of_ble_eq_true rfl) rfl rfl dX3_readTry_8 (fun v12 v12l v12u v12w => ?_)
  have v12r : u10 = h5.2.1 34 2 := u10w
  have v12q : TI v12 u10.toInt := by rw [v12w.trans v12r.symm]; exact (ti_rfl u10)
  refine go_iconst (pc := 11) (v := 1) (by decide) dX3_readTry_11 ?_
  refine gf_iadd (pc := 12) v12q (ti_c (v := 1) (a := 1) (by decide)) (by omega) (by omega) dX3_readTry_12 (fun v13 e14 => ?_)
  refine gi_put (pc := 13) (lo := 0) (hi := 500) hv5 e14 (fP_X3_19 _) rfl (Nat.le_of_ble_eq_true rfl) rfl rfl (by omega) (by omega) rfl rfl (by decide) (by decide) (by decide) (by decide) dX3_readTry_13 (fun h15 hv15 hv15e => ?_)
  have pr15 : PR h → PR h15 := fun z => by rw [hv15e]; exact PR.put hv5 (pr5 z) (by omega)
  refine go_aload_n (pc := 16) rfl dX3_readTry_16 ?_
  refine go_iload_n (pc := 17) rfl dX3_readTry_17 ?_
  refine go_iconst (pc := 18) (v := 0) (by decide) dX3_readTry_18 ?_
  refine go_invV (pc := 19) (sl := 0) (s_X3_openBlock l (d + 0) hv15 v9 (by rw [show (v9 : Int32).toInt = v9.toInt from (ti_rfl v9)]; omega) (by rw [show (v9 : Int32).toInt = v9.toInt from (ti_rfl v9)]; omega) 0 (by rw [show (0 : Int32).toInt = 0 from (ti_c (v := 0) (a := 0) (by decide))]; omega) (by rw [show (0 : Int32).toInt = 0 from (ti_c (v := 0) (a := 0) (by decide))]; omega)) mL_X3_118 iM_X3_openBlock sM_X3_openBlock (hv15.sh rfl) rfl rfl rfl (Nat.le_of_ble_eq_true rfl) (show d + 0 + 2 + 1 ≤ d + 3 by omega) (show 8 + (3 + 11) + 40 * (d + 0 + 2) ≤ 40 * (d + 3) by omega) (g_c0 hv15.ln) (Nat.le_of_ble_eq_true rfl) dX3_readTry_19 ?_
  intro r h16 hq _
  obtain ⟨rfl, hv16, pt16⟩ := hq
  have pr16 : PR h → PR h16 := fun z => pt16 (pr15 z)
  obtain ⟨u17, u17w⟩ : ∃ v : Int32, v = h16.2.1 34 2 := ⟨_, rfl⟩
  have u17e : (h16.2.1 34 2).toInt = u17.toInt := by rw [u17w]
  have u17l : 0 ≤ u17.toInt := by rw [u17w]; exact (hv16.2.1 34 2).1
  have u17u : u17.toInt ≤ 500 := by rw [u17w]; exact (hv16.2.1 34 2).2
  obtain ⟨u18, u18w⟩ : ∃ v : Int32, v = h16.2.1 34 7 := ⟨_, rfl⟩
  have u18e : (h16.2.1 34 7).toInt = u18.toInt := by rw [u18w]
  have u18l : 0 ≤ u18.toInt := by rw [u18w]; exact (hv16.2.1 34 7).1
  have u18u : u18.toInt ≤ 7 := by rw [u18w]; exact (hv16.2.1 34 7).2
  exact gi_vret (pc := 22) ⟨rfl, hv16, pr16⟩ hv16 dX3_readTry_22
set_option maxHeartbeats 4000000 in
set_option maxRecDepth 100000 in
theorem s_X0_add (l : Launch) (d : Nat) {P : PP} {h : HP} (hv : Iv P h) (c1 : Nat) (hc1 : c1 = 2 ∨ c1 = 18) (a2 : Int32) (a2l : 0 ≤ a2.toInt) (a2u : a2.toInt ≤ 5) (a3 : Int32) (a3l : -1 ≤ a3.toInt) (a3u : a3.toInt ≤ 4) (a4 : Int32) (a5 : Int32) (hk : ¬ a2.toInt = 1) (hs : (h.2.1 c1 0).toInt ≤ 39) : Mt l yX0_add cX0_add 6 (some .int) (d + 1) [.ref c1, .int a2, .int a3, .int a4, .int a5] h 0 0 (fun r h' => ∃ v : Int32, r = some (.int v) ∧ 0 ≤ v.toInt ∧ v.toInt ≤ 39 ∧ (∃ Q : PP, Iv Q h' ∧ ((0 : Int) = 0) ∧ Q.1 = P.1 ∧ Q.2.1 = P.2.1 ∧ Q.2.2.2 = P.2.2.2) ∧ ((h'.2.1 34 2).toInt = (h.2.1 34 2).toInt) ∧ ((h'.2.1 34 1).toInt = (h.2.1 34 1).toInt) ∧ ((h'.2.1 34 7).toInt = (h.2.1 34 7).toInt) ∧ (PR h → PR h')) := by
  refine Mt_iv hv (by decide) (Nat.le_of_ble_eq_true rfl) ?_
  show Go l RX0 cX0_add 6 (g_rm (d + 1) 0 0) "add" (some .int) 117 0 0 (fun _ _ => True) (fun r h' => ∃ v : Int32, r = some (.int v) ∧ 0 ≤ v.toInt ∧ v.toInt ≤ 39 ∧ (∃ Q : PP, Iv Q h' ∧ ((0 : Int) = 0) ∧ Q.1 = P.1 ∧ Q.2.1 = P.2.1 ∧ Q.2.2.2 = P.2.2.2) ∧ ((h'.2.1 34 2).toInt = (h.2.1 34 2).toInt) ∧ ((h'.2.1 34 1).toInt = (h.2.1 34 1).toInt) ∧ ((h'.2.1 34 7).toInt = (h.2.1 34 7).toInt) ∧ (PR h → PR h')) 0 0 [(0, .ref c1), (1, .int a2), (2, .int a3), (3, .int a4), (4, .int a5)] [] h
  have pr : PR h → PR h := id
  obtain ⟨u34_2, u34_2w⟩ : ∃ v : Int32, v = h.2.1 34 2 := ⟨_, rfl⟩
  have u34_2e : (h.2.1 34 2).toInt = u34_2.toInt := by rw [u34_2w]
  have u34_2l : 0 ≤ u34_2.toInt := by rw [u34_2w]; exact (hv.2.1 34 2).1
  have u34_2u : u34_2.toInt ≤ 500 := by rw [u34_2w]; exact (hv.2.1 34 2).2
  obtain ⟨u34_1, u34_1w⟩ : ∃ v : Int32, v = h.2.1 34 1 := ⟨_, rfl⟩
  have u34_1e : (h.2.1 34 1).toInt = u34_1.toInt := by rw [u34_1w]
  have u34_1l : 0 ≤ u34_1.toInt := by rw [u34_1w]; exact (hv.2.1 34 1).1
  have u34_1u : u34_1.toInt ≤ 500 := by rw [u34_1w]; exact (hv.2.1 34 1).2
  obtain ⟨u34_7, u34_7w⟩ : ∃ v : Int32, v = h.2.1 34 7 := ⟨_, rfl⟩
  have u34_7e : (h.2.1 34 7).toInt = u34_7.toInt := by rw [u34_7w]
  have u34_7l : 0 ≤ u34_7.toInt := by rw [u34_7w]; exact (hv.2.1 34 7).1
  have u34_7u : u34_7.toInt ≤ 7 := by rw [u34_7w]; exact (hv.2.1 34 7).2
  refine go_aload_n (pc := 0) rfl dX0_add_0 ?_
  refine gi_get (pc := 1) (lo := 0) (hi := 40) hv fL_X0_9 (by rcases hc1 with rfl | rfl <;> rfl) (Nat.le_of_ble_eq_true rfl) rfl (by rcases hc1 with rfl | rfl <;> rfl) dX0_add_1 (fun v1 v1l v1u v1w => ?_)
  have ksv1 : v1.toInt ≤ 39 := by rw [v1w]; exact hs
  refine go_istore (pc := 4) (Nat.le_of_ble_eq_true rfl) dX0_add_4 (go_lv (lv2 := [(0, .ref c1), (1, .int a2), (2, .int a3), (3, .int a4), (4, .int a5), (5, .int v1)]) rfl ?_)
  refine go_aload_n (pc := 6) rfl dX0_add_6 ?_
  refine go_dup (pc := 7) rfl dX0_add_7 ?_
  refine gi_get (pc := 8) (lo := 0) (hi := 40) hv fL_X0_9 (by rcases hc1 with rfl | rfl <;> rfl) (Nat.le_of_ble_eq_true rfl) rfl (by rcases hc1 with rfl | rfl <;> rfl) dX0_add_8 (fun v2 v2l v2u v2w => ?_)
  have ksv2 : v2.toInt ≤ 39 := by rw [v2w]; exact hs
  refine go_iconst (pc := 11) (v := 1) (by decide) dX0_add_11 ?_
  refine gf_iadd (pc := 12) (ti_rfl v2) (ti_c (v := 1) (a := 1) (by decide)) (by omega) (by omega) dX0_add_12 (fun v3 e4 => ?_)
  refine gi_put (pc := 13) (lo := 0) (hi := 40) hv e4 (fP_X0_9 _) (by rcases hc1 with rfl | rfl <;> rfl) (Nat.le_of_ble_eq_true rfl) rfl (by rcases hc1 with rfl | rfl <;> rfl) (by omega) (by omega) rfl rfl (by rcases hc1 with rfl | rfl <;> decide) (by rcases hc1 with rfl | rfl <;> decide) (by rcases hc1 with rfl | rfl <;> decide) (by rcases hc1 with rfl | rfl <;> decide) dX0_add_13 (fun h5 hv5 hv5e => ?_)
  have pr5 : PR h → PR h5 := fun z => by rw [hv5e]; exact PR.put hv (pr z) (by omega)
  refine go_aload_n (pc := 16) rfl dX0_add_16 ?_
  refine gi_getF (pc := 17) (q := c1 + 2) hv5 fL_X0_32 (by rcases hc1 with rfl | rfl <;> rfl) (Nat.le_of_ble_eq_true rfl) rfl (by rcases hc1 with rfl | rfl <;> exact hv5.rf (by decide)) dX0_add_17 ?_
  refine go_iload (pc := 20) rfl dX0_add_20 ?_
  refine go_iload_n (pc := 22) rfl dX0_add_22 ?_
  refine gi_kst (pc := 23) hv5 hc1 (ti_rfl v1) (ti_rfl a2) (by omega) (by omega) (by omega) (by omega) (by omega) dX0_add_23 (fun h6 hv6 hv6e => ?_)
  have pr6 : PR h → PR h6 := fun z => by rw [hv6e]; exact PR.put hv5 (pr5 z) (by omega)
  refine go_aload_n (pc := 24) rfl dX0_add_24 ?_
  refine gi_getF (pc := 25) (q := c1 + 3) hv6 fL_X0_35 (by rcases hc1 with rfl | rfl <;> rfl) (Nat.le_of_ble_eq_true rfl) rfl (by rcases hc1 with rfl | rfl <;> exact hv6.rf (by decide)) dX0_add_25 ?_
  refine go_iload (pc := 28) rfl dX0_add_28 ?_
  refine go_iload_n (pc := 30) rfl dX0_add_30 ?_
  refine gi_iast (pc := 31) (lo := -1) (hi := 4) (len := 40) hv6 (ti_rfl v1) (ti_rfl a3) (by rcases hc1 with rfl | rfl <;> rfl) (by omega) (by omega) (fun _ => by rcases hc1 with rfl | rfl <;> rfl) (by omega) (by omega) (by rcases hc1 with rfl | rfl <;> decide) dX0_add_31 (fun h7 hv7 hv7e => ?_)
  have pr7 : PR h → PR h7 := fun z => by rw [hv7e]; exact PR.put hv6 (pr6 z) (by omega)
  refine go_aload_n (pc := 32) rfl dX0_add_32 ?_
  refine gi_getF (pc := 33) (q := c1 + 4) hv7 fL_X0_38 (by rcases hc1 with rfl | rfl <;> rfl) (Nat.le_of_ble_eq_true rfl) rfl (by rcases hc1 with rfl | rfl <;> exact hv7.rf (by decide)) dX0_add_33 ?_
  refine go_iload (pc := 36) rfl dX0_add_36 ?_
  refine go_iload_n (pc := 38) rfl dX0_add_38 ?_
  refine gi_iast (pc := 39) (lo := -2147483648) (hi := 2147483647) (len := 40) hv7 (ti_rfl v1) (ti_rfl a4) (by rcases hc1 with rfl | rfl <;> rfl) (by omega) (by omega) (fun _ => by rcases hc1 with rfl | rfl <;> rfl) (ti_ge (ti_rfl a4)) (ti_le2 (ti_rfl a4)) (by rcases hc1 with rfl | rfl <;> decide) dX0_add_39 (fun h8 hv8 hv8e => ?_)
  have pr8 : PR h → PR h8 := fun z => by rw [hv8e]; exact PR.put hv7 (pr7 z) (by omega)
  refine go_aload_n (pc := 40) rfl dX0_add_40 ?_
  refine gi_getF (pc := 41) (q := c1 + 5) hv8 fL_X0_41 (by rcases hc1 with rfl | rfl <;> rfl) (Nat.le_of_ble_eq_true rfl) rfl (by rcases hc1 with rfl | rfl <;> exact hv8.rf (by decide)) dX0_add_41 ?_
  refine go_iload (pc := 44) rfl dX0_add_44 ?_
  refine go_iload (pc := 46) rfl dX0_add_46 ?_
  refine gi_iast (pc := 48) (lo := -2147483648) (hi := 2147483647) (len := 40) hv8 (ti_rfl v1) (ti_rfl a5) (by rcases hc1 with rfl | rfl <;> rfl) (by omega) (by omega) (fun _ => by rcases hc1 with rfl | rfl <;> rfl) (ti_ge (ti_rfl a5)) (ti_le2 (ti_rfl a5)) (by rcases hc1 with rfl | rfl <;> decide) dX0_add_48 (fun h9 hv9 hv9e => ?_)
  have pr9 : PR h → PR h9 := fun z => by rw [hv9e]; exact PR.put hv8 (pr8 z) (by omega)
  refine go_aload_n (pc := 49) rfl dX0_add_49 ?_
  refine gi_getF (pc := 50) (q := c1 + 6) hv9 fL_X0_44 (by rcases hc1 with rfl | rfl <;> rfl) (Nat.le_of_ble_eq_true rfl) rfl (by rcases hc1 with rfl | rfl <;> exact hv9.rf (by decide)) dX0_add_50 ?_
  refine go_iload (pc := 53) rfl dX0_add_53 ?_
  refine go_iconst (pc := 55) (v := (-1)) (by decide) dX0_add_55 ?_
  refine gi_iast (pc := 56) (lo := -1) (hi := 9) (len := 40) hv9 (ti_rfl v1) (ti_c (v := (-1)) (a := (-1)) (by decide)) (by rcases hc1 with rfl | rfl <;> rfl) (by omega) (by omega) (fun _ => by rcases hc1 with rfl | rfl <;> rfl) (by omega) (by omega) (by rcases hc1 with rfl | rfl <;> decide) dX0_add_56 (fun h10 hv10 hv10e => ?_)
  have pr10 : PR h → PR h10 := fun z => by rw [hv10e]; exact PR.put hv9 (pr9 z) (by omega)
  refine go_aload_n (pc := 57) rfl dX0_add_57 ?_
  refine gi_getF (pc := 58) (q := c1 + 7) hv10 fL_X0_47 (by rcases hc1 with rfl | rfl <;> rfl) (Nat.le_of_ble_eq_true rfl) rfl (by rcases hc1 with rfl | rfl <;> exact hv10.rf (by decide)) dX0_add_58 ?_
  refine go_iload (pc := 61) rfl dX0_add_61 ?_
  refine go_bipush (pc := 63) (v := (-2)) (by decide) dX0_add_63 ?_
  have kk : (h10.2.1 (c1 + 2) (v1.toInt).toNat) = a2 := by rw [hv10e, hv9e, hv8e, hv7e, hv6e]; rcases hc1 with rfl | rfl <;> simp [hI]
  have kk2 : (a2 : Int32).toInt = a2.toInt := (ti_rfl a2)
  refine gi_cst (pc := 65) hv10 hc1 (ti_rfl v1) (ti_c (v := (-2)) (a := (-2)) (by decide)) (by omega) (by omega) (by omega) (by omega) (Or.inr (by rw [kk]; omega)) dX0_add_65 (fun h11 hv11 hv11e => ?_)
  have pr11 : PR h → PR h11 := fun z => by rw [hv11e]; exact PR.put hv10 (pr10 z) (by omega)
  refine go_aload_n (pc := 66) rfl dX0_add_66 ?_
  refine gi_getF (pc := 67) (q := c1 + 8) hv11 fL_X0_50 (by rcases hc1 with rfl | rfl <;> rfl) (Nat.le_of_ble_eq_true rfl) rfl (by rcases hc1 with rfl | rfl <;> exact hv11.rf (by decide)) dX0_add_67 ?_
  refine go_iload (pc := 70) rfl dX0_add_70 ?_
  refine go_iconst (pc := 72) (v := (-1)) (by decide) dX0_add_72 ?_
  refine gi_iast (pc := 73) (lo := -2147483648) (hi := 2147483647) (len := 40) hv11 (ti_rfl v1) (ti_c (v := (-1)) (a := (-1)) (by decide)) (by rcases hc1 with rfl | rfl <;> rfl) (by omega) (by omega) (fun _ => by rcases hc1 with rfl | rfl <;> rfl) (ti_ge (ti_c (v := (-1)) (a := (-1)) (by decide))) (ti_le2 (ti_c (v := (-1)) (a := (-1)) (by decide))) (by rcases hc1 with rfl | rfl <;> decide) dX0_add_73 (fun h12 hv12 hv12e => ?_)
  have pr12 : PR h → PR h12 := fun z => by rw [hv12e]; exact PR.put hv11 (pr11 z) (by omega)
  refine go_aload_n (pc := 74) rfl dX0_add_74 ?_
  refine gi_getF (pc := 75) (q := c1 + 9) hv12 fL_X0_53 (by rcases hc1 with rfl | rfl <;> rfl) (Nat.le_of_ble_eq_true rfl) rfl (by rcases hc1 with rfl | rfl <;> exact hv12.rf (by decide)) dX0_add_75 ?_
  refine go_iload (pc := 78) rfl dX0_add_78 ?_
  refine go_iconst (pc := 80) (v := (-1)) (by decide) dX0_add_80 ?_
  refine gi_iast (pc := 81) (lo := -2147483648) (hi := 2147483647) (len := 40) hv12 (ti_rfl v1) (ti_c (v := (-1)) (a := (-1)) (by decide)) (by rcases hc1 with rfl | rfl <;> rfl) (by omega) (by omega) (fun _ => by rcases hc1 with rfl | rfl <;> rfl) (ti_ge (ti_c (v := (-1)) (a := (-1)) (by decide))) (ti_le2 (ti_c (v := (-1)) (a := (-1)) (by decide))) (by rcases hc1 with rfl | rfl <;> decide) dX0_add_81 (fun h13 hv13 hv13e => ?_)
  have pr13 : PR h → PR h13 := fun z => by rw [hv13e]; exact PR.put hv12 (pr12 z) (by omega)
  refine go_aload_n (pc := 82) rfl dX0_add_82 ?_
  refine gi_getF (pc := 83) (q := c1 + 10) hv13 fL_X0_56 (by rcases hc1 with rfl | rfl <;> rfl) (Nat.le_of_ble_eq_true rfl) rfl (by rcases hc1 with rfl | rfl <;> exact hv13.rf (by decide)) dX0_add_83 ?_
  refine go_iload (pc := 86) rfl dX0_add_86 ?_
  refine go_iconst (pc := 88) (v := (-1)) (by decide) dX0_add_88 ?_
  refine gi_iast (pc := 89) (lo := -2147483648) (hi := 2147483647) (len := 40) hv13 (ti_rfl v1) (ti_c (v := (-1)) (a := (-1)) (by decide)) (by rcases hc1 with rfl | rfl <;> rfl) (by omega) (by omega) (fun _ => by rcases hc1 with rfl | rfl <;> rfl) (ti_ge (ti_c (v := (-1)) (a := (-1)) (by decide))) (ti_le2 (ti_c (v := (-1)) (a := (-1)) (by decide))) (by rcases hc1 with rfl | rfl <;> decide) dX0_add_89 (fun h14 hv14 hv14e => ?_)
  have pr14 : PR h → PR h14 := fun z => by rw [hv14e]; exact PR.put hv13 (pr13 z) (by omega)
  refine go_iload (pc := 90) rfl dX0_add_90 ?_
  have g15 : (0 : Int) ≤ (h14.2.1 34 1).toInt := (hv14.2.1 34 1).1
  have g16 : (h14.2.1 34 1).toInt ≤ 500 := (hv14.2.1 34 1).2
  have g17 : (0 : Int) ≤ (h14.2.1 34 2).toInt := (hv14.2.1 34 2).1
  have g18 : (h14.2.1 34 2).toInt ≤ 500 := (hv14.2.1 34 2).2
  have g19 : (0 : Int) ≤ (h14.2.1 34 7).toInt := (hv14.2.1 34 7).1
  have g20 : (h14.2.1 34 7).toInt ≤ 7 := (hv14.2.1 34 7).2
  have g21 : (h14.2.1 34 2).toInt = u34_2.toInt := by rw [← (show u34_2 = h14.2.1 34 2 from (show u34_2 = h14.2.1 34 2 from by rw [hv14e]; exact (g_iIc (by omega) (by decide) (show u34_2 = h13.2.1 34 2 from by rw [hv13e]; exact (g_iIc (by omega) (by decide) (show u34_2 = h12.2.1 34 2 from by rw [hv12e]; exact (g_iIc (by omega) (by decide) (show u34_2 = h11.2.1 34 2 from by rw [hv11e]; exact (g_iIc (by omega) (by decide) (show u34_2 = h10.2.1 34 2 from by rw [hv10e]; exact (g_iIc (by omega) (by decide) (show u34_2 = h9.2.1 34 2 from by rw [hv9e]; exact (g_iIc (by omega) (by decide) (show u34_2 = h8.2.1 34 2 from by rw [hv8e]; exact (g_iIc (by omega) (by decide) (show u34_2 = h7.2.1 34 2 from by rw [hv7e]; exact (g_iIc (by omega) (by decide) (show u34_2 = h6.2.1 34 2 from by rw [hv6e]; exact (g_iIc (by omega) (by decide) (show u34_2 = h5.2.1 34 2 from by rw [hv5e]; exact (g_iIc (by omega) (by decide) u34_2w.symm).symm).symm).symm).symm).symm).symm).symm).symm).symm).symm).symm).symm).symm).symm).symm).symm).symm).symm).symm))] <;> exact (ti_rfl u34_2)
  have g22 : (h14.2.1 34 1).toInt = u34_1.toInt := by rw [← (show u34_1 = h14.2.1 34 1 from (show u34_1 = h14.2.1 34 1 from by rw [hv14e]; exact (g_iIc (by omega) (by decide) (show u34_1 = h13.2.1 34 1 from by rw [hv13e]; exact (g_iIc (by omega) (by decide) (show u34_1 = h12.2.1 34 1 from by rw [hv12e]; exact (g_iIc (by omega) (by decide) (show u34_1 = h11.2.1 34 1 from by rw [hv11e]; exact (g_iIc (by omega) (by decide) (show u34_1 = h10.2.1 34 1 from by rw [hv10e]; exact (g_iIc (by omega) (by decide) (show u34_1 = h9.2.1 34 1 from by rw [hv9e]; exact (g_iIc (by omega) (by decide) (show u34_1 = h8.2.1 34 1 from by rw [hv8e]; exact (g_iIc (by omega) (by decide) (show u34_1 = h7.2.1 34 1 from by rw [hv7e]; exact (g_iIc (by omega) (by decide) (show u34_1 = h6.2.1 34 1 from by rw [hv6e]; exact (g_iIc (by omega) (by decide) (show u34_1 = h5.2.1 34 1 from by rw [hv5e]; exact (g_iIc (by omega) (by decide) u34_1w.symm).symm).symm).symm).symm).symm).symm).symm).symm).symm).symm).symm).symm).symm).symm).symm).symm).symm).symm).symm))] <;> exact (ti_rfl u34_1)
  have g23 : (h14.2.1 34 7).toInt = u34_7.toInt := by rw [← (show u34_7 = h14.2.1 34 7 from (show u34_7 = h14.2.1 34 7 from by rw [hv14e]; exact (g_iIc (by omega) (by decide) (show u34_7 = h13.2.1 34 7 from by rw [hv13e]; exact (g_iIc (by omega) (by decide) (show u34_7 = h12.2.1 34 7 from by rw [hv12e]; exact (g_iIc (by omega) (by decide) (show u34_7 = h11.2.1 34 7 from by rw [hv11e]; exact (g_iIc (by omega) (by decide) (show u34_7 = h10.2.1 34 7 from by rw [hv10e]; exact (g_iIc (by omega) (by decide) (show u34_7 = h9.2.1 34 7 from by rw [hv9e]; exact (g_iIc (by omega) (by decide) (show u34_7 = h8.2.1 34 7 from by rw [hv8e]; exact (g_iIc (by omega) (by decide) (show u34_7 = h7.2.1 34 7 from by rw [hv7e]; exact (g_iIc (by omega) (by decide) (show u34_7 = h6.2.1 34 7 from by rw [hv6e]; exact (g_iIc (by omega) (by decide) (show u34_7 = h5.2.1 34 7 from by rw [hv5e]; exact (g_iIc (by omega) (by decide) u34_7w.symm).symm).symm).symm).symm).symm).symm).symm).symm).symm).symm).symm).symm).symm).symm).symm).symm).symm).symm).symm))] <;> exact (ti_rfl u34_7)
  exact gi_iret (pc := 92) (ti_rfl v1) ⟨_, rfl, (by rw [show (v1 : Int32).toInt = v1.toInt from (ti_rfl v1)]; omega), (by rw [show (v1 : Int32).toInt = v1.toInt from (ti_rfl v1)]; omega), ⟨((P.1, P.2.1, h6.2.1, P.2.2.2).1, (P.1, P.2.1, h6.2.1, P.2.2.2).2.1, h11.2.1, (P.1, P.2.1, h6.2.1, P.2.2.2).2.2.2), hv14, (by show (0 : Int) = 0; omega), rfl, rfl, rfl⟩, (by omega), (by omega), (by omega), pr14⟩ hv14 dX0_add_92
