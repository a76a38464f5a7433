/-- the reader's code has a procedure -/
def PR (h : HP) : Prop := ∀ c : Nat, h.2.2.2 34 4 = .ref c → 1 ≤ (h.2.1 c 1).toInt
theorem PR.put {P : PP} {h : HP} {c j : Nat} {x : Int32} (hv : Iv P h) (p : PR h) (hn : ¬ ((c = 2 ∨ c = 18) ∧ j = 1)) : PR (hI h c j x) := by
  intro c' e
  have e' : h.2.2.2 34 4 = .ref c' := e
  obtain ⟨q, h1, h2⟩ := hv.rc (c := 34) (j := 4) (by decide)
  have h3 := h2.symm.trans e'
  cases h3
  show 1 ≤ (if c' = c ∧ 1 = j then x else h.2.1 c' 1).toInt
  have h1' : (c' : Nat) = 2 ∨ (c' : Nat) = 18 := h1
  rw [if_neg (by omega)]
  exact p c' e'
theorem PR.put2 {P : PP} {h : HP} {c d j k : Nat} {x y : Int32} (hv : Iv P h) (p : PR h) (hn : ¬ ((c = 2 ∨ c = 18) ∧ j = 1)) (hm : ¬ ((d = 2 ∨ d = 18) ∧ k = 1)) : PR (hI (hI h c j x) d k y) := by
  intro c' e
  have e' : h.2.2.2 34 4 = .ref c' := e
  obtain ⟨q, h1, h2⟩ := hv.rc (c := 34) (j := 4) (by decide)
  have h3 := h2.symm.trans e'
  cases h3
  show 1 ≤ (if c' = d ∧ 1 = k then y else if c' = c ∧ 1 = j then x else h.2.1 c' 1).toInt
  have h1' : (c' : Nat) = 2 ∨ (c' : Nat) = 18 := h1
  rw [if_neg (by omega), if_neg (by omega)]
  exact p c' e'
theorem nar_z {x : Int32} (h0 : 0 ≤ x.toInt) (h1 : x.toInt ≤ 1) : vp_nar .boolean x = x := by
  rcases ti_bool h0 h1 with rfl | rfl <;> rfl
theorem gi_zast {l : Launch} {own : String} {cc : ByteArray} {nL : Nat} {R : Room} {nm : String} {rt : Option FieldType} {n0 mc ms : Nat} {Xf : Nat → State → Prop} {Qf : Option Value → HP → Prop} {sl pc : Nat} {lv : List (Nat × Value)} {st : List Value} {h : HP} {P : PP} {c len : Nat} {i x : Int32} {a b : Int} (hv : Iv P h) (ei : TI i a) (ex : TI x b) (hc : sh0[c]? = some (12, len)) (h0 : 0 ≤ a) (h1 : a < len) (hr : ∀ j, rg c j = (0, 1)) (g1 : 0 ≤ b) (g2 : b ≤ 1) (hk : c ≠ 0 ∧ c ≠ 70 ∧ c ≠ 34 ∧ c ≠ 4 ∧ c ≠ 9 ∧ c ≠ 20 ∧ c ≠ 25 ∧ (c < 73 ∨ 102 < c)) (hd : decode cc pc = .ok (.bastore, 1)) (k : ∀ h' : HP, Iv P h' → h' = hI h c a.toNat x → Go l own cc nL R nm rt n0 mc ms Xf Qf sl (pc + 1) lv st h') : Go l own cc nL R nm rt n0 mc ms Xf Qf sl pc lv (.int x :: .int i :: .ref c :: st) h :=
  go_zast (hv.sh hc) (ti_in ei h0 h1) hd (by rw [ti_ix ei h0, nar_z (by rw [show x.toInt = b from ex]; exact g1) (by rw [show x.toInt = b from ex]; exact g2)]; exact k _ (hv.put ex (by rw [hr]; exact g1) (by rw [hr]; exact g2) (Or.inl hk.1) (Or.inl hk.2.1) (Or.inl hk.2.2.1) hk.2.2.2) rfl)
theorem dX3_addItem_0 : decode cX3_addItem 0 = .ok (.aload_n 0, 1) := by decide +kernel
theorem dX3_addItem_1 : decode cX3_addItem 1 = .ok (.getfield 28, 3) := by decide +kernel
theorem dX3_addItem_4 : decode cX3_addItem 4 = .ok (.iload_n 1, 1) := by decide +kernel
theorem dX3_addItem_5 : decode cX3_addItem 5 = .ok (.invokevirtual 151, 3) := by decide +kernel
theorem dX3_addItem_8 : decode cX3_addItem 8 = .ok (.istore_n 2, 1) := by decide +kernel
theorem dX3_addItem_9 : decode cX3_addItem 9 = .ok (.iload_n 2, 1) := by decide +kernel
theorem dX3_addItem_10 : decode cX3_addItem 10 = .ok (.ifCond .ge 15, 3) := by decide +kernel
theorem dX3_addItem_13 : decode cX3_addItem 13 = .ok (.aload_n 0, 1) := by decide +kernel
theorem dX3_addItem_14 : decode cX3_addItem 14 = .ok (.iconst 4, 1) := by decide +kernel
theorem dX3_addItem_15 : decode cX3_addItem 15 = .ok (.aload_n 0, 1) := by decide +kernel
theorem dX3_addItem_16 : decode cX3_addItem 16 = .ok (.getfield 19, 3) := by decide +kernel
theorem dX3_addItem_19 : decode cX3_addItem 19 = .ok (.invokevirtual 101, 3) := by decide +kernel
theorem dX3_addItem_22 : decode cX3_addItem 22 = .ok (.goto 35, 3) := by decide +kernel
theorem dX3_addItem_25 : decode cX3_addItem 25 = .ok (.aload_n 0, 1) := by decide +kernel
theorem dX3_addItem_26 : decode cX3_addItem 26 = .ok (.getfield 28, 3) := by decide +kernel
theorem dX3_addItem_29 : decode cX3_addItem 29 = .ok (.getfield 154, 3) := by decide +kernel
theorem dX3_addItem_32 : decode cX3_addItem 32 = .ok (.iload_n 2, 1) := by decide +kernel
theorem dX3_addItem_33 : decode cX3_addItem 33 = .ok (.aload_n 0, 1) := by decide +kernel
theorem dX3_addItem_34 : decode cX3_addItem 34 = .ok (.getfield 39, 3) := by decide +kernel
theorem dX3_addItem_37 : decode cX3_addItem 37 = .ok (.aload_n 0, 1) := by decide +kernel
theorem dX3_addItem_38 : decode cX3_addItem 38 = .ok (.getfield 32, 3) := by decide +kernel
theorem dX3_addItem_41 : decode cX3_addItem 41 = .ok (.iconst 1, 1) := by decide +kernel
theorem dX3_addItem_42 : decode cX3_addItem 42 = .ok (.isub, 1) := by decide +kernel
theorem dX3_addItem_43 : decode cX3_addItem 43 = .ok (.iaload, 1) := by decide +kernel
theorem dX3_addItem_44 : decode cX3_addItem 44 = .ok (.iastore, 1) := by decide +kernel
theorem dX3_addItem_45 : decode cX3_addItem 45 = .ok (.aload_n 0, 1) := by decide +kernel
theorem dX3_addItem_46 : decode cX3_addItem 46 = .ok (.getfield 39, 3) := by decide +kernel
theorem dX3_addItem_49 : decode cX3_addItem 49 = .ok (.aload_n 0, 1) := by decide +kernel
theorem dX3_addItem_50 : decode cX3_addItem 50 = .ok (.getfield 32, 3) := by decide +kernel
theorem dX3_addItem_53 : decode cX3_addItem 53 = .ok (.iconst 1, 1) := by decide +kernel
theorem dX3_addItem_54 : decode cX3_addItem 54 = .ok (.isub, 1) := by decide +kernel
theorem dX3_addItem_55 : decode cX3_addItem 55 = .ok (.iload_n 2, 1) := by decide +kernel
theorem dX3_addItem_56 : decode cX3_addItem 56 = .ok (.iastore, 1) := by decide +kernel
theorem dX3_addItem_57 : decode cX3_addItem 57 = .ok (.iload_n 2, 1) := by decide +kernel
theorem dX3_addItem_58 : decode cX3_addItem 58 = .ok (.ireturn, 1) := by decide +kernel
theorem dX3_blame_0 : decode cX3_blame 0 = .ok (.aload_n 0, 1) := by decide +kernel
theorem dX3_blame_1 : decode cX3_blame 1 = .ok (.getfield 22, 3) := by decide +kernel
theorem dX3_blame_4 : decode cX3_blame 4 = .ok (.ifCond .ne 13, 3) := by decide +kernel
theorem dX3_blame_7 : decode cX3_blame 7 = .ok (.aload_n 0, 1) := by decide +kernel
theorem dX3_blame_8 : decode cX3_blame 8 = .ok (.iload_n 1, 1) := by decide +kernel
theorem dX3_blame_9 : decode cX3_blame 9 = .ok (.bipush 8, 2) := by decide +kernel
theorem dX3_blame_11 : decode cX3_blame 11 = .ok (.iload_n 2, 1) := by decide +kernel
theorem dX3_blame_12 : decode cX3_blame 12 = .ok (.imul, 1) := by decide +kernel
theorem dX3_blame_13 : decode cX3_blame 13 = .ok (.iadd, 1) := by decide +kernel
theorem dX3_blame_14 : decode cX3_blame 14 = .ok (.putfield 22, 3) := by decide +kernel
theorem dX3_blame_17 : decode cX3_blame 17 = .ok (.return_, 1) := by decide +kernel
theorem dX3_isDigit_0 : decode cX3_isDigit 0 = .ok (.iload_n 0, 1) := by decide +kernel
theorem dX3_isDigit_1 : decode cX3_isDigit 1 = .ok (.bipush 48, 2) := by decide +kernel
theorem dX3_isDigit_3 : decode cX3_isDigit 3 = .ok (.if_icmp .lt 13, 3) := by decide +kernel
theorem dX3_isDigit_6 : decode cX3_isDigit 6 = .ok (.iload_n 0, 1) := by decide +kernel
theorem dX3_isDigit_7 : decode cX3_isDigit 7 = .ok (.bipush 57, 2) := by decide +kernel
theorem dX3_isDigit_9 : decode cX3_isDigit 9 = .ok (.if_icmp .gt 7, 3) := by decide +kernel
theorem dX3_isDigit_12 : decode cX3_isDigit 12 = .ok (.iconst 1, 1) := by decide +kernel
theorem dX3_isDigit_13 : decode cX3_isDigit 13 = .ok (.goto 4, 3) := by decide +kernel
theorem dX3_isDigit_16 : decode cX3_isDigit 16 = .ok (.iconst 0, 1) := by decide +kernel
theorem dX3_isDigit_17 : decode cX3_isDigit 17 = .ok (.ireturn, 1) := by decide +kernel
theorem dX3_kindBegunBy_0 : decode cX3_kindBegunBy 0 = .ok (.iload_n 0, 1) := by decide +kernel
theorem dX3_kindBegunBy_1 : decode cX3_kindBegunBy 1 = .ok (.lookupswitch 51 #[(33, 47), (63, 43), (64, 45), (94, 49)], 43) := by decide +kernel
theorem dX3_kindBegunBy_44 : decode cX3_kindBegunBy 44 = .ok (.iconst 2, 1) := by decide +kernel
theorem dX3_kindBegunBy_45 : decode cX3_kindBegunBy 45 = .ok (.ireturn, 1) := by decide +kernel
theorem dX3_kindBegunBy_46 : decode cX3_kindBegunBy 46 = .ok (.iconst 3, 1) := by decide +kernel
theorem dX3_kindBegunBy_47 : decode cX3_kindBegunBy 47 = .ok (.ireturn, 1) := by decide +kernel
theorem dX3_kindBegunBy_48 : decode cX3_kindBegunBy 48 = .ok (.iconst 4, 1) := by decide +kernel
theorem dX3_kindBegunBy_49 : decode cX3_kindBegunBy 49 = .ok (.ireturn, 1) := by decide +kernel
theorem dX3_kindBegunBy_50 : decode cX3_kindBegunBy 50 = .ok (.iconst 5, 1) := by decide +kernel
theorem dX3_kindBegunBy_51 : decode cX3_kindBegunBy 51 = .ok (.ireturn, 1) := by decide +kernel
theorem dX3_kindBegunBy_52 : decode cX3_kindBegunBy 52 = .ok (.iload_n 0, 1) := by decide +kernel
theorem dX3_kindBegunBy_53 : decode cX3_kindBegunBy 53 = .ok (.invokestatic 137, 3) := by decide +kernel
theorem dX3_kindBegunBy_56 : decode cX3_kindBegunBy 56 = .ok (.iconst (-1), 1) := by decide +kernel
theorem dX3_kindBegunBy_57 : decode cX3_kindBegunBy 57 = .ok (.if_icmp .ne 7, 3) := by decide +kernel
theorem dX3_kindBegunBy_60 : decode cX3_kindBegunBy 60 = .ok (.iconst (-1), 1) := by decide +kernel
theorem dX3_kindBegunBy_61 : decode cX3_kindBegunBy 61 = .ok (.goto 4, 3) := by decide +kernel
theorem dX3_kindBegunBy_64 : decode cX3_kindBegunBy 64 = .ok (.iconst 0, 1) := by decide +kernel
theorem dX3_kindBegunBy_65 : decode cX3_kindBegunBy 65 = .ok (.ireturn, 1) := by decide +kernel
theorem dX3_look_0 : decode cX3_look 0 = .ok (.aload_n 0, 1) := by decide +kernel
theorem dX3_look_1 : decode cX3_look 1 = .ok (.getfield 19, 3) := by decide +kernel
theorem dX3_look_4 : decode cX3_look 4 = .ok (.aload_n 0, 1) := by decide +kernel
theorem dX3_look_5 : decode cX3_look 5 = .ok (.getfield 15, 3) := by decide +kernel
theorem dX3_look_8 : decode cX3_look 8 = .ok (.if_icmp .ge 44, 3) := by decide +kernel
theorem dX3_look_11 : decode cX3_look 11 = .ok (.aload_n 0, 1) := by decide +kernel
theorem dX3_look_12 : decode cX3_look 12 = .ok (.getfield 9, 3) := by decide +kernel
theorem dX3_look_15 : decode cX3_look 15 = .ok (.aload_n 0, 1) := by decide +kernel
theorem dX3_look_16 : decode cX3_look 16 = .ok (.getfield 19, 3) := by decide +kernel
theorem dX3_look_19 : decode cX3_look 19 = .ok (.baload, 1) := by decide +kernel
theorem dX3_look_20 : decode cX3_look 20 = .ok (.bipush 32, 2) := by decide +kernel
theorem dX3_look_22 : decode cX3_look 22 = .ok (.if_icmp .eq 17, 3) := by decide +kernel
theorem dX3_look_25 : decode cX3_look 25 = .ok (.aload_n 0, 1) := by decide +kernel
theorem dX3_look_26 : decode cX3_look 26 = .ok (.getfield 9, 3) := by decide +kernel
theorem dX3_look_29 : decode cX3_look 29 = .ok (.aload_n 0, 1) := by decide +kernel
theorem dX3_look_30 : decode cX3_look 30 = .ok (.getfield 19, 3) := by decide +kernel
theorem dX3_look_33 : decode cX3_look 33 = .ok (.baload, 1) := by decide +kernel
theorem dX3_look_34 : decode cX3_look 34 = .ok (.bipush 10, 2) := by decide +kernel
theorem dX3_look_36 : decode cX3_look 36 = .ok (.if_icmp .ne 16, 3) := by decide +kernel
theorem dX3_look_39 : decode cX3_look 39 = .ok (.aload_n 0, 1) := by decide +kernel
theorem dX3_look_40 : decode cX3_look 40 = .ok (.dup, 1) := by decide +kernel
theorem dX3_look_41 : decode cX3_look 41 = .ok (.getfield 19, 3) := by decide +kernel
theorem dX3_look_44 : decode cX3_look 44 = .ok (.iconst 1, 1) := by decide +kernel
theorem dX3_look_45 : decode cX3_look 45 = .ok (.iadd, 1) := by decide +kernel
theorem dX3_look_46 : decode cX3_look 46 = .ok (.putfield 19, 3) := by decide +kernel
theorem dX3_look_49 : decode cX3_look 49 = .ok (.goto (-49), 3) := by decide +kernel
theorem dX3_look_52 : decode cX3_look 52 = .ok (.aload_n 0, 1) := by decide +kernel
theorem dX3_look_53 : decode cX3_look 53 = .ok (.getfield 19, 3) := by decide +kernel
theorem dX3_look_56 : decode cX3_look 56 = .ok (.aload_n 0, 1) := by decide +kernel
theorem dX3_look_57 : decode cX3_look 57 = .ok (.getfield 15, 3) := by decide +kernel
theorem dX3_look_60 : decode cX3_look 60 = .ok (.if_icmp .ge 19, 3) := by decide +kernel
theorem dX3_look_63 : decode cX3_look 63 = .ok (.aload_n 0, 1) := by decide +kernel
theorem dX3_look_64 : decode cX3_look 64 = .ok (.getfield 9, 3) := by decide +kernel
theorem dX3_look_67 : decode cX3_look 67 = .ok (.aload_n 0, 1) := by decide +kernel
theorem dX3_look_68 : decode cX3_look 68 = .ok (.getfield 19, 3) := by decide +kernel
theorem dX3_look_71 : decode cX3_look 71 = .ok (.baload, 1) := by decide +kernel
theorem dX3_look_72 : decode cX3_look 72 = .ok (.sipush 255, 3) := by decide +kernel
theorem dX3_look_75 : decode cX3_look 75 = .ok (.iand, 1) := by decide +kernel
theorem dX3_look_76 : decode cX3_look 76 = .ok (.goto 4, 3) := by decide +kernel
theorem dX3_look_79 : decode cX3_look 79 = .ok (.iconst (-1), 1) := by decide +kernel
theorem dX3_look_80 : decode cX3_look 80 = .ok (.ireturn, 1) := by decide +kernel
theorem dX3_nameOf_0 : decode cX3_nameOf 0 = .ok (.iload_n 0, 1) := by decide +kernel
theorem dX3_nameOf_1 : decode cX3_nameOf 1 = .ok (.bipush 97, 2) := by decide +kernel
theorem dX3_nameOf_3 : decode cX3_nameOf 3 = .ok (.if_icmp .lt 14, 3) := by decide +kernel
theorem dX3_nameOf_6 : decode cX3_nameOf 6 = .ok (.iload_n 0, 1) := by decide +kernel
theorem dX3_nameOf_7 : decode cX3_nameOf 7 = .ok (.bipush 102, 2) := by decide +kernel
theorem dX3_nameOf_9 : decode cX3_nameOf 9 = .ok (.if_icmp .gt 8, 3) := by decide +kernel
theorem dX3_nameOf_12 : decode cX3_nameOf 12 = .ok (.iload_n 0, 1) := by decide +kernel
theorem dX3_nameOf_13 : decode cX3_nameOf 13 = .ok (.bipush 97, 2) := by decide +kernel
theorem dX3_nameOf_15 : decode cX3_nameOf 15 = .ok (.isub, 1) := by decide +kernel
theorem dX3_nameOf_16 : decode cX3_nameOf 16 = .ok (.ireturn, 1) := by decide +kernel
theorem dX3_nameOf_17 : decode cX3_nameOf 17 = .ok (.iload_n 0, 1) := by decide +kernel
theorem dX3_nameOf_18 : decode cX3_nameOf 18 = .ok (.bipush 119, 2) := by decide +kernel
theorem dX3_nameOf_20 : decode cX3_nameOf 20 = .ok (.if_icmp .lt 19, 3) := by decide +kernel
theorem dX3_nameOf_23 : decode cX3_nameOf 23 = .ok (.iload_n 0, 1) := by decide +kernel
theorem dX3_nameOf_24 : decode cX3_nameOf 24 = .ok (.bipush 122, 2) := by decide +kernel
theorem dX3_nameOf_26 : decode cX3_nameOf 26 = .ok (.if_icmp .gt 13, 3) := by decide +kernel
theorem dX3_nameOf_29 : decode cX3_nameOf 29 = .ok (.bipush 6, 2) := by decide +kernel
theorem dX3_nameOf_31 : decode cX3_nameOf 31 = .ok (.iload_n 0, 1) := by decide +kernel
theorem dX3_nameOf_32 : decode cX3_nameOf 32 = .ok (.iadd, 1) := by decide +kernel
theorem dX3_nameOf_33 : decode cX3_nameOf 33 = .ok (.bipush 119, 2) := by decide +kernel
theorem dX3_nameOf_35 : decode cX3_nameOf 35 = .ok (.isub, 1) := by decide +kernel
theorem dX3_nameOf_36 : decode cX3_nameOf 36 = .ok (.goto 4, 3) := by decide +kernel
theorem dX3_nameOf_39 : decode cX3_nameOf 39 = .ok (.iconst (-1), 1) := by decide +kernel
theorem dX3_nameOf_40 : decode cX3_nameOf 40 = .ok (.ireturn, 1) := by decide +kernel
theorem dX3_openBlock_0 : decode cX3_openBlock 0 = .ok (.aload_n 0, 1) := by decide +kernel
theorem dX3_openBlock_1 : decode cX3_openBlock 1 = .ok (.invokevirtual 66, 3) := by decide +kernel
theorem dX3_openBlock_4 : decode cX3_openBlock 4 = .ok (.bipush 123, 2) := by decide +kernel
theorem dX3_openBlock_6 : decode cX3_openBlock 6 = .ok (.if_icmp .eq 15, 3) := by decide +kernel
theorem dX3_openBlock_9 : decode cX3_openBlock 9 = .ok (.aload_n 0, 1) := by decide +kernel
theorem dX3_openBlock_10 : decode cX3_openBlock 10 = .ok (.iconst 1, 1) := by decide +kernel
theorem dX3_openBlock_11 : decode cX3_openBlock 11 = .ok (.aload_n 0, 1) := by decide +kernel
theorem dX3_openBlock_12 : decode cX3_openBlock 12 = .ok (.getfield 19, 3) := by decide +kernel
theorem dX3_openBlock_15 : decode cX3_openBlock 15 = .ok (.invokevirtual 101, 3) := by decide +kernel
theorem dX3_openBlock_18 : decode cX3_openBlock 18 = .ok (.goto 74, 3) := by decide +kernel
theorem dX3_openBlock_21 : decode cX3_openBlock 21 = .ok (.aload_n 0, 1) := by decide +kernel
theorem dX3_openBlock_22 : decode cX3_openBlock 22 = .ok (.getfield 32, 3) := by decide +kernel
theorem dX3_openBlock_25 : decode cX3_openBlock 25 = .ok (.bipush 6, 2) := by decide +kernel
theorem dX3_openBlock_27 : decode cX3_openBlock 27 = .ok (.if_icmp .le 15, 3) := by decide +kernel
theorem dX3_openBlock_30 : decode cX3_openBlock 30 = .ok (.aload_n 0, 1) := by decide +kernel
theorem dX3_openBlock_31 : decode cX3_openBlock 31 = .ok (.iconst 4, 1) := by decide +kernel
theorem dX3_openBlock_32 : decode cX3_openBlock 32 = .ok (.aload_n 0, 1) := by decide +kernel
theorem dX3_openBlock_33 : decode cX3_openBlock 33 = .ok (.getfield 19, 3) := by decide +kernel
theorem dX3_openBlock_36 : decode cX3_openBlock 36 = .ok (.invokevirtual 101, 3) := by decide +kernel
theorem dX3_openBlock_39 : decode cX3_openBlock 39 = .ok (.goto 53, 3) := by decide +kernel
theorem dX3_openBlock_42 : decode cX3_openBlock 42 = .ok (.aload_n 0, 1) := by decide +kernel
theorem dX3_openBlock_43 : decode cX3_openBlock 43 = .ok (.dup, 1) := by decide +kernel
theorem dX3_openBlock_44 : decode cX3_openBlock 44 = .ok (.getfield 19, 3) := by decide +kernel
theorem dX3_openBlock_47 : decode cX3_openBlock 47 = .ok (.iconst 1, 1) := by decide +kernel
theorem dX3_openBlock_48 : decode cX3_openBlock 48 = .ok (.iadd, 1) := by decide +kernel
theorem dX3_openBlock_49 : decode cX3_openBlock 49 = .ok (.putfield 19, 3) := by decide +kernel
theorem dX3_openBlock_52 : decode cX3_openBlock 52 = .ok (.aload_n 0, 1) := by decide +kernel
theorem dX3_openBlock_53 : decode cX3_openBlock 53 = .ok (.getfield 35, 3) := by decide +kernel
theorem dX3_openBlock_56 : decode cX3_openBlock 56 = .ok (.aload_n 0, 1) := by decide +kernel
theorem dX3_openBlock_57 : decode cX3_openBlock 57 = .ok (.getfield 32, 3) := by decide +kernel
theorem dX3_openBlock_60 : decode cX3_openBlock 60 = .ok (.iload_n 1, 1) := by decide +kernel
theorem dX3_openBlock_61 : decode cX3_openBlock 61 = .ok (.iastore, 1) := by decide +kernel
theorem dX3_openBlock_62 : decode cX3_openBlock 62 = .ok (.aload_n 0, 1) := by decide +kernel
theorem dX3_openBlock_63 : decode cX3_openBlock 63 = .ok (.getfield 39, 3) := by decide +kernel
theorem dX3_openBlock_66 : decode cX3_openBlock 66 = .ok (.aload_n 0, 1) := by decide +kernel
theorem dX3_openBlock_67 : decode cX3_openBlock 67 = .ok (.getfield 32, 3) := by decide +kernel
theorem dX3_openBlock_70 : decode cX3_openBlock 70 = .ok (.iconst (-1), 1) := by decide +kernel
theorem dX3_openBlock_71 : decode cX3_openBlock 71 = .ok (.iastore, 1) := by decide +kernel
theorem dX3_openBlock_72 : decode cX3_openBlock 72 = .ok (.aload_n 0, 1) := by decide +kernel
theorem dX3_openBlock_73 : decode cX3_openBlock 73 = .ok (.getfield 42, 3) := by decide +kernel
theorem dX3_openBlock_76 : decode cX3_openBlock 76 = .ok (.aload_n 0, 1) := by decide +kernel
theorem dX3_openBlock_77 : decode cX3_openBlock 77 = .ok (.getfield 32, 3) := by decide +kernel
theorem dX3_openBlock_80 : decode cX3_openBlock 80 = .ok (.iload_n 2, 1) := by decide +kernel
theorem dX3_openBlock_81 : decode cX3_openBlock 81 = .ok (.bastore, 1) := by decide +kernel
theorem dX3_openBlock_82 : decode cX3_openBlock 82 = .ok (.aload_n 0, 1) := by decide +kernel
theorem dX3_openBlock_83 : decode cX3_openBlock 83 = .ok (.dup, 1) := by decide +kernel
theorem dX3_openBlock_84 : decode cX3_openBlock 84 = .ok (.getfield 32, 3) := by decide +kernel
theorem dX3_openBlock_87 : decode cX3_openBlock 87 = .ok (.iconst 1, 1) := by decide +kernel
theorem dX3_openBlock_88 : decode cX3_openBlock 88 = .ok (.iadd, 1) := by decide +kernel
theorem dX3_openBlock_89 : decode cX3_openBlock 89 = .ok (.putfield 32, 3) := by decide +kernel
theorem dX3_openBlock_92 : decode cX3_openBlock 92 = .ok (.return_, 1) := by decide +kernel
theorem dX3_readNumber_0 : decode cX3_readNumber 0 = .ok (.aload_n 0, 1) := by decide +kernel
theorem dX3_readNumber_1 : decode cX3_readNumber 1 = .ok (.getfield 19, 3) := by decide +kernel
theorem dX3_readNumber_4 : decode cX3_readNumber 4 = .ok (.istore_n 1, 1) := by decide +kernel
theorem dX3_readNumber_5 : decode cX3_readNumber 5 = .ok (.iconst 0, 1) := by decide +kernel
theorem dX3_readNumber_6 : decode cX3_readNumber 6 = .ok (.istore_n 2, 1) := by decide +kernel
theorem dX3_readNumber_7 : decode cX3_readNumber 7 = .ok (.aload_n 0, 1) := by decide +kernel
theorem dX3_readNumber_8 : decode cX3_readNumber 8 = .ok (.getfield 19, 3) := by decide +kernel
theorem dX3_readNumber_11 : decode cX3_readNumber 11 = .ok (.aload_n 0, 1) := by decide +kernel
theorem dX3_readNumber_12 : decode cX3_readNumber 12 = .ok (.getfield 15, 3) := by decide +kernel
theorem dX3_readNumber_15 : decode cX3_readNumber 15 = .ok (.if_icmp .ge 59, 3) := by decide +kernel
theorem dX3_readNumber_18 : decode cX3_readNumber 18 = .ok (.aload_n 0, 1) := by decide +kernel
theorem dX3_readNumber_19 : decode cX3_readNumber 19 = .ok (.getfield 9, 3) := by decide +kernel
theorem dX3_readNumber_22 : decode cX3_readNumber 22 = .ok (.aload_n 0, 1) := by decide +kernel
theorem dX3_readNumber_23 : decode cX3_readNumber 23 = .ok (.getfield 19, 3) := by decide +kernel
theorem dX3_readNumber_26 : decode cX3_readNumber 26 = .ok (.baload, 1) := by decide +kernel
theorem dX3_readNumber_27 : decode cX3_readNumber 27 = .ok (.invokestatic 210, 3) := by decide +kernel
theorem dX3_readNumber_30 : decode cX3_readNumber 30 = .ok (.ifCond .eq 44, 3) := by decide +kernel
theorem dX3_readNumber_33 : decode cX3_readNumber 33 = .ok (.aload_n 0, 1) := by decide +kernel
theorem dX3_readNumber_34 : decode cX3_readNumber 34 = .ok (.getfield 19, 3) := by decide +kernel
theorem dX3_readNumber_37 : decode cX3_readNumber 37 = .ok (.iload_n 1, 1) := by decide +kernel
theorem dX3_readNumber_38 : decode cX3_readNumber 38 = .ok (.isub, 1) := by decide +kernel
theorem dX3_readNumber_39 : decode cX3_readNumber 39 = .ok (.iconst 3, 1) := by decide +kernel
theorem dX3_readNumber_40 : decode cX3_readNumber 40 = .ok (.if_icmp .ge 21, 3) := by decide +kernel
theorem dX3_readNumber_43 : decode cX3_readNumber 43 = .ok (.iload_n 2, 1) := by decide +kernel
theorem dX3_readNumber_44 : decode cX3_readNumber 44 = .ok (.bipush 10, 2) := by decide +kernel
theorem dX3_readNumber_46 : decode cX3_readNumber 46 = .ok (.imul, 1) := by decide +kernel
theorem dX3_readNumber_47 : decode cX3_readNumber 47 = .ok (.aload_n 0, 1) := by decide +kernel
theorem dX3_readNumber_48 : decode cX3_readNumber 48 = .ok (.getfield 9, 3) := by decide +kernel
theorem dX3_readNumber_51 : decode cX3_readNumber 51 = .ok (.aload_n 0, 1) := by decide +kernel
theorem dX3_readNumber_52 : decode cX3_readNumber 52 = .ok (.getfield 19, 3) := by decide +kernel
theorem dX3_readNumber_55 : decode cX3_readNumber 55 = .ok (.baload, 1) := by decide +kernel
theorem dX3_readNumber_56 : decode cX3_readNumber 56 = .ok (.iadd, 1) := by decide +kernel
theorem dX3_readNumber_57 : decode cX3_readNumber 57 = .ok (.bipush 48, 2) := by decide +kernel
theorem dX3_readNumber_59 : decode cX3_readNumber 59 = .ok (.isub, 1) := by decide +kernel
theorem dX3_readNumber_60 : decode cX3_readNumber 60 = .ok (.istore_n 2, 1) := by decide +kernel
theorem dX3_readNumber_61 : decode cX3_readNumber 61 = .ok (.aload_n 0, 1) := by decide +kernel
theorem dX3_readNumber_62 : decode cX3_readNumber 62 = .ok (.dup, 1) := by decide +kernel
theorem dX3_readNumber_63 : decode cX3_readNumber 63 = .ok (.getfield 19, 3) := by decide +kernel
theorem dX3_readNumber_66 : decode cX3_readNumber 66 = .ok (.iconst 1, 1) := by decide +kernel
theorem dX3_readNumber_67 : decode cX3_readNumber 67 = .ok (.iadd, 1) := by decide +kernel
theorem dX3_readNumber_68 : decode cX3_readNumber 68 = .ok (.putfield 19, 3) := by decide +kernel
theorem dX3_readNumber_71 : decode cX3_readNumber 71 = .ok (.goto (-64), 3) := by decide +kernel
theorem dX3_readNumber_74 : decode cX3_readNumber 74 = .ok (.aload_n 0, 1) := by decide +kernel
theorem dX3_readNumber_75 : decode cX3_readNumber 75 = .ok (.getfield 19, 3) := by decide +kernel
theorem dX3_readNumber_78 : decode cX3_readNumber 78 = .ok (.iload_n 1, 1) := by decide +kernel
theorem dX3_readNumber_79 : decode cX3_readNumber 79 = .ok (.isub, 1) := by decide +kernel
theorem dX3_readNumber_80 : decode cX3_readNumber 80 = .ok (.iconst 3, 1) := by decide +kernel
theorem dX3_readNumber_81 : decode cX3_readNumber 81 = .ok (.if_icmp .le 9, 3) := by decide +kernel
theorem dX3_readNumber_84 : decode cX3_readNumber 84 = .ok (.aload_n 0, 1) := by decide +kernel
theorem dX3_readNumber_85 : decode cX3_readNumber 85 = .ok (.iconst 2, 1) := by decide +kernel
theorem dX3_readNumber_86 : decode cX3_readNumber 86 = .ok (.iload_n 1, 1) := by decide +kernel
theorem dX3_readNumber_87 : decode cX3_readNumber 87 = .ok (.invokevirtual 101, 3) := by decide +kernel
theorem dX3_readNumber_90 : decode cX3_readNumber 90 = .ok (.iload_n 2, 1) := by decide +kernel
theorem dX3_readNumber_91 : decode cX3_readNumber 91 = .ok (.ireturn, 1) := by decide +kernel
theorem dX3_readOperand_0 : decode cX3_readOperand 0 = .ok (.aload_n 0, 1) := by decide +kernel
theorem dX3_readOperand_1 : decode cX3_readOperand 1 = .ok (.invokevirtual 66, 3) := by decide +kernel
theorem dX3_readOperand_4 : decode cX3_readOperand 4 = .ok (.istore_n 1, 1) := by decide +kernel
theorem dX3_readOperand_5 : decode cX3_readOperand 5 = .ok (.iload_n 1, 1) := by decide +kernel
theorem dX3_readOperand_6 : decode cX3_readOperand 6 = .ok (.invokestatic 210, 3) := by decide +kernel
theorem dX3_readOperand_9 : decode cX3_readOperand 9 = .ok (.ifCond .eq 11, 3) := by decide +kernel
theorem dX3_readOperand_12 : decode cX3_readOperand 12 = .ok (.bipush 10, 2) := by decide +kernel
theorem dX3_readOperand_14 : decode cX3_readOperand 14 = .ok (.aload_n 0, 1) := by decide +kernel
theorem dX3_readOperand_15 : decode cX3_readOperand 15 = .ok (.invokevirtual 213, 3) := by decide +kernel
theorem dX3_readOperand_18 : decode cX3_readOperand 18 = .ok (.iadd, 1) := by decide +kernel
theorem dX3_readOperand_19 : decode cX3_readOperand 19 = .ok (.ireturn, 1) := by decide +kernel
theorem dX3_readOperand_20 : decode cX3_readOperand 20 = .ok (.iload_n 1, 1) := by decide +kernel
theorem dX3_readOperand_21 : decode cX3_readOperand 21 = .ok (.invokestatic 137, 3) := by decide +kernel
theorem dX3_readOperand_24 : decode cX3_readOperand 24 = .ok (.istore_n 2, 1) := by decide +kernel
theorem dX3_readOperand_25 : decode cX3_readOperand 25 = .ok (.iload_n 2, 1) := by decide +kernel
theorem dX3_readOperand_26 : decode cX3_readOperand 26 = .ok (.iconst (-1), 1) := by decide +kernel
theorem dX3_readOperand_27 : decode cX3_readOperand 27 = .ok (.if_icmp .ne 15, 3) := by decide +kernel
theorem dX3_readOperand_30 : decode cX3_readOperand 30 = .ok (.aload_n 0, 1) := by decide +kernel
theorem dX3_readOperand_31 : decode cX3_readOperand 31 = .ok (.iconst 1, 1) := by decide +kernel
theorem dX3_readOperand_32 : decode cX3_readOperand 32 = .ok (.aload_n 0, 1) := by decide +kernel
theorem dX3_readOperand_33 : decode cX3_readOperand 33 = .ok (.getfield 19, 3) := by decide +kernel
theorem dX3_readOperand_36 : decode cX3_readOperand 36 = .ok (.invokevirtual 101, 3) := by decide +kernel
theorem dX3_readOperand_39 : decode cX3_readOperand 39 = .ok (.goto 13, 3) := by decide +kernel
theorem dX3_readOperand_42 : decode cX3_readOperand 42 = .ok (.aload_n 0, 1) := by decide +kernel
theorem dX3_readOperand_43 : decode cX3_readOperand 43 = .ok (.dup, 1) := by decide +kernel
theorem dX3_readOperand_44 : decode cX3_readOperand 44 = .ok (.getfield 19, 3) := by decide +kernel
theorem dX3_readOperand_47 : decode cX3_readOperand 47 = .ok (.iconst 1, 1) := by decide +kernel
theorem dX3_readOperand_48 : decode cX3_readOperand 48 = .ok (.iadd, 1) := by decide +kernel
theorem dX3_readOperand_49 : decode cX3_readOperand 49 = .ok (.putfield 19, 3) := by decide +kernel
theorem dX3_readOperand_52 : decode cX3_readOperand 52 = .ok (.iload_n 2, 1) := by decide +kernel
theorem dX3_readOperand_53 : decode cX3_readOperand 53 = .ok (.ireturn, 1) := by decide +kernel
theorem dX3_take_0 : decode cX3_take 0 = .ok (.aload_n 0, 1) := by decide +kernel
theorem dX3_take_1 : decode cX3_take 1 = .ok (.invokevirtual 66, 3) := by decide +kernel
theorem dX3_take_4 : decode cX3_take 4 = .ok (.iload_n 1, 1) := by decide +kernel
theorem dX3_take_5 : decode cX3_take 5 = .ok (.if_icmp .ne 16, 3) := by decide +kernel
theorem dX3_take_8 : decode cX3_take 8 = .ok (.aload_n 0, 1) := by decide +kernel
theorem dX3_take_9 : decode cX3_take 9 = .ok (.dup, 1) := by decide +kernel
theorem dX3_take_10 : decode cX3_take 10 = .ok (.getfield 19, 3) := by decide +kernel
theorem dX3_take_13 : decode cX3_take 13 = .ok (.iconst 1, 1) := by decide +kernel
theorem dX3_take_14 : decode cX3_take 14 = .ok (.iadd, 1) := by decide +kernel
theorem dX3_take_15 : decode cX3_take 15 = .ok (.putfield 19, 3) := by decide +kernel
theorem dX3_take_18 : decode cX3_take 18 = .ok (.goto 12, 3) := by decide +kernel
theorem dX3_take_21 : decode cX3_take 21 = .ok (.aload_n 0, 1) := by decide +kernel
theorem dX3_take_22 : decode cX3_take 22 = .ok (.iconst 1, 1) := by decide +kernel
theorem dX3_take_23 : decode cX3_take 23 = .ok (.aload_n 0, 1) := by decide +kernel
theorem dX3_take_24 : decode cX3_take 24 = .ok (.getfield 19, 3) := by decide +kernel
theorem dX3_take_27 : decode cX3_take 27 = .ok (.invokevirtual 101, 3) := by decide +kernel
theorem dX3_take_30 : decode cX3_take 30 = .ok (.return_, 1) := by decide +kernel
theorem dX5_add_0 : decode cX5_add 0 = .ok (.aload_n 0, 1) := by decide +kernel
theorem dX5_add_1 : decode cX5_add 1 = .ok (.getfield 9, 3) := by decide +kernel
theorem dX5_add_4 : decode cX5_add 4 = .ok (.sipush 128, 3) := by decide +kernel
theorem dX5_add_7 : decode cX5_add 7 = .ok (.if_icmp .lt 5, 3) := by decide +kernel
theorem dX5_add_10 : decode cX5_add 10 = .ok (.iconst (-1), 1) := by decide +kernel
theorem dX5_add_11 : decode cX5_add 11 = .ok (.ireturn, 1) := by decide +kernel
theorem dX5_add_12 : decode cX5_add 12 = .ok (.aload_n 0, 1) := by decide +kernel
theorem dX5_add_13 : decode cX5_add 13 = .ok (.getfield 9, 3) := by decide +kernel
theorem dX5_add_16 : decode cX5_add 16 = .ok (.istore_n 2, 1) := by decide +kernel
theorem dX5_add_17 : decode cX5_add 17 = .ok (.aload_n 0, 1) := by decide +kernel
theorem dX5_add_18 : decode cX5_add 18 = .ok (.dup, 1) := by decide +kernel
theorem dX5_add_19 : decode cX5_add 19 = .ok (.getfield 9, 3) := by decide +kernel
theorem dX5_add_22 : decode cX5_add 22 = .ok (.iconst 1, 1) := by decide +kernel
theorem dX5_add_23 : decode cX5_add 23 = .ok (.iadd, 1) := by decide +kernel
theorem dX5_add_24 : decode cX5_add 24 = .ok (.putfield 9, 3) := by decide +kernel
theorem dX5_add_27 : decode cX5_add 27 = .ok (.aload_n 0, 1) := by decide +kernel
theorem dX5_add_28 : decode cX5_add 28 = .ok (.getfield 15, 3) := by decide +kernel
theorem dX5_add_31 : decode cX5_add 31 = .ok (.iload_n 2, 1) := by decide +kernel
theorem dX5_add_32 : decode cX5_add 32 = .ok (.iload_n 1, 1) := by decide +kernel
theorem dX5_add_33 : decode cX5_add 33 = .ok (.iastore, 1) := by decide +kernel
theorem dX5_add_34 : decode cX5_add 34 = .ok (.aload_n 0, 1) := by decide +kernel
theorem dX5_add_35 : decode cX5_add 35 = .ok (.getfield 19, 3) := by decide +kernel
theorem dX5_add_38 : decode cX5_add 38 = .ok (.iload_n 2, 1) := by decide +kernel
theorem dX5_add_39 : decode cX5_add 39 = .ok (.iconst (-1), 1) := by decide +kernel
theorem dX5_add_40 : decode cX5_add 40 = .ok (.iastore, 1) := by decide +kernel
theorem dX5_add_41 : decode cX5_add 41 = .ok (.aload_n 0, 1) := by decide +kernel
theorem dX5_add_42 : decode cX5_add 42 = .ok (.getfield 22, 3) := by decide +kernel
theorem dX5_add_45 : decode cX5_add 45 = .ok (.iload_n 2, 1) := by decide +kernel
theorem dX5_add_46 : decode cX5_add 46 = .ok (.iconst (-1), 1) := by decide +kernel
theorem dX5_add_47 : decode cX5_add 47 = .ok (.iastore, 1) := by decide +kernel
theorem dX5_add_48 : decode cX5_add 48 = .ok (.aload_n 0, 1) := by decide +kernel
theorem dX5_add_49 : decode cX5_add 49 = .ok (.getfield 25, 3) := by decide +kernel
theorem dX5_add_52 : decode cX5_add 52 = .ok (.iload_n 2, 1) := by decide +kernel
theorem dX5_add_53 : decode cX5_add 53 = .ok (.iconst (-1), 1) := by decide +kernel
theorem dX5_add_54 : decode cX5_add 54 = .ok (.iastore, 1) := by decide +kernel
theorem dX5_add_55 : decode cX5_add 55 = .ok (.aload_n 0, 1) := by decide +kernel
theorem dX5_add_56 : decode cX5_add 56 = .ok (.getfield 28, 3) := by decide +kernel
theorem dX5_add_59 : decode cX5_add 59 = .ok (.iload_n 2, 1) := by decide +kernel
theorem dX5_add_60 : decode cX5_add 60 = .ok (.iconst (-1), 1) := by decide +kernel
theorem dX5_add_61 : decode cX5_add 61 = .ok (.iastore, 1) := by decide +kernel
theorem dX5_add_62 : decode cX5_add 62 = .ok (.iload_n 2, 1) := by decide +kernel
theorem dX5_add_63 : decode cX5_add 63 = .ok (.ireturn, 1) := by decide +kernel
theorem dX7_summary_0 : decode cX7_summary 0 = .ok (.aload_n 0, 1) := by decide +kernel
theorem dX7_summary_1 : decode cX7_summary 1 = .ok (.iload_n 1, 1) := by decide +kernel
theorem dX7_summary_2 : decode cX7_summary 2 = .ok (.invokevirtual 87, 3) := by decide +kernel
theorem dX7_summary_5 : decode cX7_summary 5 = .ok (.ifCond .eq 30, 3) := by decide +kernel
theorem dX7_summary_8 : decode cX7_summary 8 = .ok (.aload_n 0, 1) := by decide +kernel
theorem dX7_summary_9 : decode cX7_summary 9 = .ok (.getfield 23, 3) := by decide +kernel
theorem dX7_summary_12 : decode cX7_summary 12 = .ok (.getfield 91, 3) := by decide +kernel
theorem dX7_summary_15 : decode cX7_summary 15 = .ok (.iload_n 1, 1) := by decide +kernel
theorem dX7_summary_16 : decode cX7_summary 16 = .ok (.iaload, 1) := by decide +kernel
theorem dX7_summary_17 : decode cX7_summary 17 = .ok (.iconst 1, 1) := by decide +kernel
theorem dX7_summary_18 : decode cX7_summary 18 = .ok (.if_icmp .ne 17, 3) := by decide +kernel
theorem dX7_summary_21 : decode cX7_summary 21 = .ok (.iload_n 2, 1) := by decide +kernel
theorem dX7_summary_22 : decode cX7_summary 22 = .ok (.invokestatic 133, 3) := by decide +kernel
theorem dX7_summary_25 : decode cX7_summary 25 = .ok (.ifCond .eq 10, 3) := by decide +kernel
theorem dX7_summary_28 : decode cX7_summary 28 = .ok (.iload_n 3, 1) := by decide +kernel
theorem dX7_summary_29 : decode cX7_summary 29 = .ok (.invokestatic 133, 3) := by decide +kernel
theorem dX7_summary_32 : decode cX7_summary 32 = .ok (.ifCond .ne 5, 3) := by decide +kernel
theorem dX7_summary_35 : decode cX7_summary 35 = .ok (.iconst 0, 1) := by decide +kernel
theorem dX7_summary_36 : decode cX7_summary 36 = .ok (.ireturn, 1) := by decide +kernel
theorem dX7_summary_37 : decode cX7_summary 37 = .ok (.aload_n 0, 1) := by decide +kernel
theorem dX7_summary_38 : decode cX7_summary 38 = .ok (.getfield 42, 3) := by decide +kernel
theorem dX7_summary_41 : decode cX7_summary 41 = .ok (.aload_n 0, 1) := by decide +kernel
theorem dX7_summary_42 : decode cX7_summary 42 = .ok (.getfield 23, 3) := by decide +kernel
theorem dX7_summary_45 : decode cX7_summary 45 = .ok (.invokevirtual 113, 3) := by decide +kernel
theorem dX7_summary_48 : decode cX7_summary 48 = .ok (.aload_n 0, 1) := by decide +kernel
theorem dX7_summary_49 : decode cX7_summary 49 = .ok (.getfield 42, 3) := by decide +kernel
theorem dX7_summary_52 : decode cX7_summary 52 = .ok (.aload_n 0, 1) := by decide +kernel
theorem dX7_summary_53 : decode cX7_summary 53 = .ok (.getfield 23, 3) := by decide +kernel
theorem dX7_summary_56 : decode cX7_summary 56 = .ok (.getfield 101, 3) := by decide +kernel
theorem dX7_summary_59 : decode cX7_summary 59 = .ok (.iload_n 1, 1) := by decide +kernel
theorem dX7_summary_60 : decode cX7_summary 60 = .ok (.iaload, 1) := by decide +kernel
theorem dX7_summary_61 : decode cX7_summary 61 = .ok (.iload_n 2, 1) := by decide +kernel
theorem dX7_summary_62 : decode cX7_summary 62 = .ok (.iload_n 3, 1) := by decide +kernel
theorem dX7_summary_63 : decode cX7_summary 63 = .ok (.invokevirtual 136, 3) := by decide +kernel
theorem dX7_summary_66 : decode cX7_summary 66 = .ok (.ireturn, 1) := by decide +kernel
