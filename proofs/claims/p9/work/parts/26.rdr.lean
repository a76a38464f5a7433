/-- the reader's code has a procedure -/
def PR (h : HP) : Prop := ∀ c : Nat, h.2.2.2 34 4 = .ref c → 1 ≤ (h.2.1 c 1).toInt
theorem PR.put {P : PP} {h : HP} {c j : Nat} {x : Int32} (hv : Iv P h) (p : PR h) (hn : ¬ ((c = 2 ∨ c = 18) ∧ j = 1)) : PR (hI h c j x) := by
  intro c' e
  have e' : h.2.2.2 34 4 = .ref c' := e
  obtain ⟨q, h1, h2⟩ := hv.rc (c := 34) (j := 4) (by decide)
  have h3 := h2.symm.trans e'
  cases h3
  show 1 ≤ (if c' = c ∧ 1 = j then x else h.2.1 c' 1).toInt
  have h1' : (c' : Nat) = 2 ∨ (c' : Nat) = 18 := h1
  rw [if_neg (by omega)]
  exact p c' e'
theorem PR.put2 {P : PP} {h : HP} {c d j k : Nat} {x y : Int32} (hv : Iv P h) (p : PR h) (hn : ¬ ((c = 2 ∨ c = 18) ∧ j = 1)) (hm : ¬ ((d = 2 ∨ d = 18) ∧ k = 1)) : PR (hI (hI h c j x) d k y) := by
  intro c' e
  have e' : h.2.2.2 34 4 = .ref c' := e
  obtain ⟨q, h1, h2⟩ := hv.rc (c := 34) (j := 4) (by decide)
  have h3 := h2.symm.trans e'
  cases h3
  show 1 ≤ (if c' = d ∧ 1 = k then y else if c' = c ∧ 1 = j then x else h.2.1 c' 1).toInt
  have h1' : (c' : Nat) = 2 ∨ (c' : Nat) = 18 := h1
  rw [if_neg (by omega), if_neg (by omega)]
  exact p c' e'
theorem nar_z {x : Int32} (h0 : 0 ≤ x.toInt) (h1 : x.toInt ≤ 1) : vp_nar .boolean x = x := by
  rcases ti_bool h0 h1 with rfl | rfl <;> rfl
theorem gi_zast {l : Launch} {own : String} {cc : ByteArray} {nL : Nat} {R : Room} {nm : String} {rt : Option FieldType} {n0 mc ms : Nat} {Xf : Nat → State → Prop} {Qf : Option Value → HP → Prop} {sl pc : Nat} {lv : List (Nat × Value)} {st : List Value} {h : HP} {P : PP} {c len : Nat} {i x : Int32} {a b : Int} (hv : Iv P h) (ei : TI i a) (ex : TI x b) (hc : sh0[c]? = some (12, len)) (h0 : 0 ≤ a) (h1 : a < len) (hr : ∀ j, rg c j = (0, 1)) (g1 : 0 ≤ b) (g2 : b ≤ 1) (hk : c ≠ 0 ∧ c ≠ 70 ∧ c ≠ 34 ∧ c ≠ 4 ∧ c ≠ 9 ∧ c ≠ 20 ∧ c ≠ 25 ∧ (c < 73 ∨ 102 < c)) (hd : decode cc pc = .ok (.bastore, 1)) (k : ∀ h' : HP, Iv P h' → h' = hI h c a.toNat x → Go l own cc nL R nm rt n0 mc ms Xf Qf sl (pc + 1) lv st h') : Go l own cc nL R nm rt n0 mc ms Xf Qf sl pc lv (.int x :: .int i :: .ref c :: st) h :=
  go_zast (hv.sh hc) (ti_in ei h0 h1) hd (by rw [ti_ix ei h0, nar_z (by rw [show x.toInt = b from ex]; exact g1) (by rw [show x.toInt = b from ex]; exact g2)]; exact k _ (hv.put ex (by rw [hr]; exact g1) (by rw [hr]; exact g2) (Or.inl hk.1) (Or.inl hk.2.1) (Or.inl hk.2.2.1) hk.2.2.2) rfl)
theorem dX3_addItem_0 : decode cX3_addItem 0 = .ok (.aload_n 0, 1) := by decide +kernel
theorem dX3_addItem_1 : decode cX3_addItem 1 = .ok (.getfield 28, 3) := by decide +kernel
theorem dX3_addItem_4 : decode cX3_addItem 4 = .ok (.iload_n 1, 1) := by decide +kernel
theorem dX3_addItem_5 : decode cX3_addItem 5 = .ok (.invokevirtual 151, 3) := by decide +kernel
theorem dX3_addItem_8 : decode cX3_addItem 8 = .ok (.istore_n 2, 1) := by decide +kernel
theorem dX3_addItem_9 : decode cX3_addItem 9 = .ok (.iload_n 2, 1) := by decide +kernel
theorem dX3_addItem_10 : decode cX3_addItem 10 = .ok (.ifCond .ge 15, 3) := by decide +kernel
theorem dX3_addItem_13 : decode cX3_addItem 13 = .ok (.aload_n 0, 1) := by decide +kernel
theorem dX3_addItem_14 : decode cX3_addItem 14 = .ok (.iconst 4, 1) := by decide +kernel
theorem dX3_addItem_15 : decode cX3_addItem 15 = .ok (.aload_n 0, 1) := by decide +kernel
theorem dX3_addItem_16 : decode cX3_addItem 16 = .ok (.getfield 19, 3) := by decide +kernel
theorem dX3_addItem_19 : decode cX3_addItem 19 = .ok (.invokevirtual 101, 3) := by decide +kernel
theorem dX3_addItem_22 : decode cX3_addItem 22 = .ok (.goto 35, 3) := by decide +kernel
theorem dX3_addItem_25 : decode cX3_addItem 25 = .ok (.aload_n 0, 1) := by decide +kernel
theorem dX3_addItem_26 : decode cX3_addItem 26 = .ok (.getfield 28, 3) := by decide +kernel
theorem dX3_addItem_29 : decode cX3_addItem 29 = .ok (.getfield 154, 3) := by decide +kernel
theorem dX3_addItem_32 : decode cX3_addItem 32 = .ok (.iload_n 2, 1) := by decide +kernel
theorem dX3_addItem_33 : decode cX3_addItem 33 = .ok (.aload_n 0, 1) := by decide +kernel
theorem dX3_addItem_34 : decode cX3_addItem 34 = .ok (.getfield 39, 3) := by decide +kernel
theorem dX3_addItem_37 : decode cX3_addItem 37 = .ok (.aload_n 0, 1) := by decide +kernel
theorem dX3_addItem_38 : decode cX3_addItem 38 = .ok (.getfield 32, 3) := by decide +kernel
theorem dX3_addItem_41 : decode cX3_addItem 41 = .ok (.iconst 1, 1) := by decide +kernel
theorem dX3_addItem_42 : decode cX3_addItem 42 = .ok (.isub, 1) := by decide +kernel
theorem dX3_addItem_43 : decode cX3_addItem 43 = .ok (.iaload, 1) := by decide +kernel
theorem dX3_addItem_44 : decode cX3_addItem 44 = .ok (.iastore, 1) := by decide +kernel
theorem dX3_addItem_45 : decode cX3_addItem 45 = .ok (.aload_n 0, 1) := by decide +kernel
theorem dX3_addItem_46 : decode cX3_addItem 46 = .ok (.getfield 39, 3) := by decide +kernel
theorem dX3_addItem_49 : decode cX3_addItem 49 = .ok (.aload_n 0, 1) := by decide +kernel
theorem dX3_addItem_50 : decode cX3_addItem 50 = .ok (.getfield 32, 3) := by decide +kernel
theorem dX3_addItem_53 : decode cX3_addItem 53 = .ok (.iconst 1, 1) := by decide +kernel
theorem dX3_addItem_54 : decode cX3_addItem 54 = .ok (.isub, 1) := by decide +kernel
theorem dX3_addItem_55 : decode cX3_addItem 55 = .ok (.iload_n 2, 1) := by decide +kernel
theorem dX3_addItem_56 : decode cX3_addItem 56 = .ok (.iastore, 1) := by decide +kernel
theorem dX3_addItem_57 : decode cX3_addItem 57 = .ok (.iload_n 2, 1) := by decide +kernel
theorem dX3_addItem_58 : decode cX3_addItem 58 = .ok (.ireturn, 1) := by decide +kernel
theorem dX3_blame_0 : decode cX3_blame 0 = .ok (.aload_n 0, 1) := by decide +kernel
theorem dX3_blame_1 : decode cX3_blame 1 = .ok (.getfield 22, 3) := by decide +kernel
theorem dX3_blame_4 : decode cX3_blame 4 = .ok (.ifCond .ne 13, 3) := by decide +kernel
theorem dX3_blame_7 : decode cX3_blame 7 = .ok (.aload_n 0, 1) := by decide +kernel
theorem dX3_blame_8 : decode cX3_blame 8 = .ok (.iload_n 1, 1) := by decide +kernel
theorem dX3_blame_9 : decode cX3_blame 9 = .ok (.bipush 8, 2) := by decide +kernel
theorem dX3_blame_11 : decode cX3_blame 11 = .ok (.iload_n 2, 1) := by decide +kernel
theorem dX3_blame_12 : decode cX3_blame 12 = .ok (.imul, 1) := by decide +kernel
theorem dX3_blame_13 : decode cX3_blame 13 = .ok (.iadd, 1) := by decide +kernel
theorem dX3_blame_14 : decode cX3_blame 14 = .ok (.putfield 22, 3) := by decide +kernel
theorem dX3_blame_17 : decode cX3_blame 17 = .ok (.return_, 1) := by decide +kernel
theorem dX3_isDigit_0 : decode cX3_isDigit 0 = .ok (.iload_n 0, 1) := by decide +kernel
theorem dX3_isDigit_1 : decode cX3_isDigit 1 = .ok (.bipush 48, 2) := by decide +kernel
theorem dX3_isDigit_3 : decode cX3_isDigit 3 = .ok (.if_icmp .lt 13, 3) := by decide +kernel
theorem dX3_isDigit_6 : decode cX3_isDigit 6 = .ok (.iload_n 0, 1) := by decide +kernel
theorem dX3_isDigit_7 : decode cX3_isDigit 7 = .ok (.bipush 57, 2) := by decide +kernel
theorem dX3_isDigit_9 : decode cX3_isDigit 9 = .ok (.if_icmp .gt 7, 3) := by decide +kernel
theorem dX3_isDigit_12 : decode cX3_isDigit 12 = .ok (.iconst 1, 1) := by decide +kernel
theorem dX3_isDigit_13 : decode cX3_isDigit 13 = .ok (.goto 4, 3) := by decide +kernel
theorem dX3_isDigit_16 : decode cX3_isDigit 16 = .ok (.iconst 0, 1) := by decide +kernel
theorem dX3_isDigit_17 : decode cX3_isDigit 17 = .ok (.ireturn, 1) := by decide +kernel
theorem dX3_kindBegunBy_0 : decode cX3_kindBegunBy 0 = .ok (.iload_n 0, 1) := by decide +kernel
theorem dX3_kindBegunBy_1 : decode cX3_kindBegunBy 1 = .ok (.lookupswitch 51 #[(33, 47), (63, 43), (64, 45), (94, 49)], 43) := by decide +kernel
theorem dX3_kindBegunBy_44 : decode cX3_kindBegunBy 44 = .ok (.iconst 2, 1) := by decide +kernel
theorem dX3_kindBegunBy_45 : decode cX3_kindBegunBy 45 = .ok (.ireturn, 1) := by decide +kernel
theorem dX3_kindBegunBy_46 : decode cX3_kindBegunBy 46 = .ok (.iconst 3, 1) := by decide +kernel
theorem dX3_kindBegunBy_47 : decode cX3_kindBegunBy 47 = .ok (.ireturn, 1) := by decide +kernel
theorem dX3_kindBegunBy_48 : decode cX3_kindBegunBy 48 = .ok (.iconst 4, 1) := by decide +kernel
theorem dX3_kindBegunBy_49 : decode cX3_kindBegunBy 49 = .ok (.ireturn, 1) := by decide +kernel
theorem dX3_kindBegunBy_50 : decode cX3_kindBegunBy 50 = .ok (.iconst 5, 1) := by decide +kernel
theorem dX3_kindBegunBy_51 : decode cX3_kindBegunBy 51 = .ok (.ireturn, 1) := by decide +kernel
theorem dX3_kindBegunBy_52 : decode cX3_kindBegunBy 52 = .ok (.iload_n 0, 1) := by decide +kernel
theorem dX3_kindBegunBy_53 : decode cX3_kindBegunBy 53 = .ok (.invokestatic 137, 3) := by decide +kernel
theorem dX3_kindBegunBy_56 : decode cX3_kindBegunBy 56 = .ok (.iconst (-1), 1) := by decide +kernel
theorem dX3_kindBegunBy_57 : decode cX3_kindBegunBy 57 = .ok (.if_icmp .ne 7, 3) := by decide +kernel
theorem dX3_kindBegunBy_60 : decode cX3_kindBegunBy 60 = .ok (.iconst (-1), 1) := by decide +kernel
theorem dX3_kindBegunBy_61 : decode cX3_kindBegunBy 61 = .ok (.goto 4, 3) := by decide +kernel
theorem dX3_kindBegunBy_64 : decode cX3_kindBegunBy 64 = .ok (.iconst 0, 1) := by decide +kernel
theorem dX3_kindBegunBy_65 : decode cX3_kindBegunBy 65 = .ok (.ireturn, 1) := by decide +kernel
theorem dX3_look_0 : decode cX3_look 0 = .ok (.aload_n 0, 1) := by decide +kernel
theorem dX3_look_1 : decode cX3_look 1 = .ok (.getfield 19, 3) := by decide +kernel
theorem dX3_look_4 : decode cX3_look 4 = .ok (.aload_n 0, 1) := by decide +kernel
theorem dX3_look_5 : decode cX3_look 5 = .ok (.getfield 15, 3) := by decide +kernel
theorem dX3_look_8 : decode cX3_look 8 = .ok (.if_icmp .ge 44, 3) := by decide +kernel
theorem dX3_look_11 : decode cX3_look 11 = .ok (.aload_n 0, 1) := by decide +kernel
theorem dX3_look_12 : decode cX3_look 12 = .ok (.getfield 9, 3) := by decide +kernel
theorem dX3_look_15 : decode cX3_look 15 = .ok (.aload_n 0, 1) := by decide +kernel
theorem dX3_look_16 : decode cX3_look 16 = .ok (.getfield 19, 3) := by decide +kernel
theorem dX3_look_19 : decode cX3_look 19 = .ok (.baload, 1) := by decide +kernel
theorem dX3_look_20 : decode cX3_look 20 = .ok (.bipush 32, 2) := by decide +kernel
theorem dX3_look_22 : decode cX3_look 22 = .ok (.if_icmp .eq 17, 3) := by decide +kernel
theorem dX3_look_25 : decode cX3_look 25 = .ok (.aload_n 0, 1) := by decide +kernel
theorem dX3_look_26 : decode cX3_look 26 = .ok (.getfield 9, 3) := by decide +kernel
theorem dX3_look_29 : decode cX3_look 29 = .ok (.aload_n 0, 1) := by decide +kernel
theorem dX3_look_30 : decode cX3_look 30 = .ok (.getfield 19, 3) := by decide +kernel
theorem dX3_look_33 : decode cX3_look 33 = .ok (.baload, 1) := by decide +kernel
theorem dX3_look_34 : decode cX3_look 34 = .ok (.bipush 10, 2) := by decide +kernel
theorem dX3_look_36 : decode cX3_look 36 = .ok (.if_icmp .ne 16, 3) := by decide +kernel
theorem dX3_look_39 : decode cX3_look 39 = .ok (.aload_n 0, 1) := by decide +kernel
theorem dX3_look_40 : decode cX3_look 40 = .ok (.dup, 1) := by decide +kernel
theorem dX3_look_41 : decode cX3_look 41 = .ok (.getfield 19, 3) := by decide +kernel
theorem dX3_look_44 : decode cX3_look 44 = .ok (.iconst 1, 1) := by decide +kernel
theorem dX3_look_45 : decode cX3_look 45 = .ok (.iadd, 1) := by decide +kernel
theorem dX3_look_46 : decode cX3_look 46 = .ok (.putfield 19, 3) := by decide +kernel
theorem dX3_look_49 : decode cX3_look 49 = .ok (.goto (-49), 3) := by decide +kernel
theorem dX3_look_52 : decode cX3_look 52 = .ok (.aload_n 0, 1) := by decide +kernel
theorem dX3_look_53 : decode cX3_look 53 = .ok (.getfield 19, 3) := by decide +kernel
theorem dX3_look_56 : decode cX3_look 56 = .ok (.aload_n 0, 1) := by decide +kernel
theorem dX3_look_57 : decode cX3_look 57 = .ok (.getfield 15, 3) := by decide +kernel
theorem dX3_look_60 : decode cX3_look 60 = .ok (.if_icmp .ge 19, 3) := by decide +kernel
theorem dX3_look_63 : decode cX3_look 63 = .ok (.aload_n 0, 1) := by decide +kernel
theorem dX3_look_64 : decode cX3_look 64 = .ok (.getfield 9, 3) := by decide +kernel
theorem dX3_look_67 : decode cX3_look 67 = .ok (.aload_n 0, 1) := by decide +kernel
theorem dX3_look_68 : decode cX3_look 68 = .ok (.getfield 19, 3) := by decide +kernel
theorem dX3_look_71 : decode cX3_look 71 = .ok (.baload, 1) := by decide +kernel
theorem dX3_look_72 : decode cX3_look 72 = .ok (.sipush 255, 3) := by decide +kernel
theorem dX3_look_75 : decode cX3_look 75 = .ok (.iand, 1) := by decide +kernel
theorem dX3_look_76 : decode cX3_look 76 = .ok (.goto 4, 3) := by decide +kernel
theorem dX3_look_79 : decode cX3_look 79 = .ok (.iconst (-1), 1) := by decide +kernel
theorem dX3_look_80 : decode cX3_look 80 = .ok (.ireturn, 1) := by decide +kernel
theorem dX3_nameOf_0 : decode cX3_nameOf 0 = .ok (.iload_n 0, 1) := by decide +kernel
theorem dX3_nameOf_1 : decode cX3_nameOf 1 = .ok (.bipush 97, 2) := by decide +kernel
theorem dX3_nameOf_3 : decode cX3_nameOf 3 = .ok (.if_icmp .lt 14, 3) := by decide +kernel
theorem dX3_nameOf_6 : decode cX3_nameOf 6 = .ok (.iload_n 0, 1) := by decide +kernel
theorem dX3_nameOf_7 : decode cX3_nameOf 7 = .ok (.bipush 102, 2) := by decide +kernel
theorem dX3_nameOf_9 : decode cX3_nameOf 9 = .ok (.if_icmp .gt 8, 3) := by decide +kernel
theorem dX3_nameOf_12 : decode cX3_nameOf 12 = .ok (.iload_n 0, 1) := by decide +kernel
theorem dX3_nameOf_13 : decode cX3_nameOf 13 = .ok (.bipush 97, 2) := by decide +kernel
theorem dX3_nameOf_15 : decode cX3_nameOf 15 = .ok (.isub, 1) := by decide +kernel
theorem dX3_nameOf_16 : decode cX3_nameOf 16 = .ok (.ireturn, 1) := by decide +kernel
theorem dX3_nameOf_17 : decode cX3_nameOf 17 = .ok (.iload_n 0, 1) := by decide +kernel
theorem dX3_nameOf_18 : decode cX3_nameOf 18 = .ok (.bipush 119, 2) := by decide +kernel
theorem dX3_nameOf_20 : decode cX3_nameOf 20 = .ok (.if_icmp .lt 19, 3) := by decide +kernel
theorem dX3_nameOf_23 : decode cX3_nameOf 23 = .ok (.iload_n 0, 1) := by decide +kernel
theorem dX3_nameOf_24 : decode cX3_nameOf 24 = .ok (.bipush 122, 2) := by decide +kernel
theorem dX3_nameOf_26 : decode cX3_nameOf 26 = .ok (.if_icmp .gt 13, 3) := by decide +kernel
theorem dX3_nameOf_29 : decode cX3_nameOf 29 = .ok (.bipush 6, 2) := by decide +kernel
theorem dX3_nameOf_31 : decode cX3_nameOf 31 = .ok (.iload_n 0, 1) := by decide +kernel
theorem dX3_nameOf_32 : decode cX3_nameOf 32 = .ok (.iadd, 1) := by decide +kernel
theorem dX3_nameOf_33 : decode cX3_nameOf 33 = .ok (.bipush 119, 2) := by decide +kernel
theorem dX3_nameOf_35 : decode cX3_nameOf 35 = .ok (.isub, 1) := by decide +kernel
theorem dX3_nameOf_36 : decode cX3_nameOf 36 = .ok (.goto 4, 3) := by decide +kernel
theorem dX3_nameOf_39 : decode cX3_nameOf 39 = .ok (.iconst (-1), 1) := by decide +kernel
theorem dX3_nameOf_40 : decode cX3_nameOf 40 = .ok (.ireturn, 1) := by decide +kernel
theorem dX3_openBlock_0 : decode cX3_openBlock 0 = .ok (.aload_n 0, 1) := by decide +kernel
theorem dX3_openBlock_1 : decode cX3_openBlock 1 = .ok (.invokevirtual 66, 3) := by decide +kernel
theorem dX3_openBlock_4 : decode cX3_openBlock 4 = .ok (.bipush 123, 2) := by decide +kernel
theorem dX3_openBlock_6 : decode cX3_openBlock 6 = .ok (.if_icmp .eq 15, 3) := by decide +kernel
theorem dX3_openBlock_9 : decode cX3_openBlock 9 = .ok (.aload_n 0, 1) := by decide +kernel
theorem dX3_openBlock_10 : decode cX3_openBlock 10 = .ok (.iconst 1, 1) := by decide +kernel
theorem dX3_openBlock_11 : decode cX3_openBlock 11 = .ok (.aload_n 0, 1) := by decide +kernel
theorem dX3_openBlock_12 : decode cX3_openBlock 12 = .ok (.getfield 19, 3) := by decide +kernel
theorem dX3_openBlock_15 : decode cX3_openBlock 15 = .ok (.invokevirtual 101, 3) := by decide +kernel
theorem dX3_openBlock_18 : decode cX3_openBlock 18 = .ok (.goto 74, 3) := by decide +kernel
theorem dX3_openBlock_21 : decode cX3_openBlock 21 = .ok (.aload_n 0, 1) := by decide +kernel
theorem dX3_openBlock_22 : decode cX3_openBlock 22 = .ok (.getfield 32, 3) := by decide +kernel
theorem dX3_openBlock_25 : decode cX3_openBlock 25 = .ok (.bipush 6, 2) := by decide +kernel
theorem dX3_openBlock_27 : decode cX3_openBlock 27 = .ok (.if_icmp .le 15, 3) := by decide +kernel
theorem dX3_openBlock_30 : decode cX3_openBlock 30 = .ok (.aload_n 0, 1) := by decide +kernel
theorem dX3_openBlock_31 : decode cX3_openBlock 31 = .ok (.iconst 4, 1) := by decide +kernel
theorem dX3_openBlock_32 : decode cX3_openBlock 32 = .ok (.aload_n 0, 1) := by decide +kernel
theorem dX3_openBlock_33 : decode cX3_openBlock 33 = .ok (.getfield 19, 3) := by decide +kernel
theorem dX3_openBlock_36 : decode cX3_openBlock 36 = .ok (.invokevirtual 101, 3) := by decide +kernel
theorem dX3_openBlock_39 : decode cX3_openBlock 39 = .ok (.goto 53, 3) := by decide +kernel
theorem dX3_openBlock_42 : decode cX3_openBlock 42 = .ok (.aload_n 0, 1) := by decide +kernel
theorem dX3_openBlock_43 : decode cX3_openBlock 43 = .ok (.dup, 1) := by decide +kernel
theorem dX3_openBlock_44 : decode cX3_openBlock 44 = .ok (.getfield 19, 3) := by decide +kernel
theorem dX3_openBlock_47 : decode cX3_openBlock 47 = .ok (.iconst 1, 1) := by decide +kernel
theorem dX3_openBlock_48 : decode cX3_openBlock 48 = .ok (.iadd, 1) := by decide +kernel
theorem dX3_openBlock_49 : decode cX3_openBlock 49 = .ok (.putfield 19, 3) := by decide +kernel
theorem dX3_openBlock_52 : decode cX3_openBlock 52 = .ok (.aload_n 0, 1) := by decide +kernel
theorem dX3_openBlock_53 : decode cX3_openBlock 53 = .ok (.getfield 35, 3) := by decide +kernel
theorem dX3_openBlock_56 : decode cX3_openBlock 56 = .ok (.aload_n 0, 1) := by decide +kernel
theorem dX3_openBlock_57 : decode cX3_openBlock 57 = .ok (.getfield 32, 3) := by decide +kernel
theorem dX3_openBlock_60 : decode cX3_openBlock 60 = .ok (.iload_n 1, 1) := by decide +kernel
theorem dX3_openBlock_61 : decode cX3_openBlock 61 = .ok (.iastore, 1) := by decide +kernel
theorem dX3_openBlock_62 : decode cX3_openBlock 62 = .ok (.aload_n 0, 1) := by decide +kernel
theorem dX3_openBlock_63 : decode cX3_openBlock 63 = .ok (.getfield 39, 3) := by decide +kernel
theorem dX3_openBlock_66 : decode cX3_openBlock 66 = .ok (.aload_n 0, 1) := by decide +kernel
theorem dX3_openBlock_67 : decode cX3_openBlock 67 = .ok (.getfield 32, 3) := by decide +kernel
theorem dX3_openBlock_70 : decode cX3_openBlock 70 = .ok (.iconst (-1), 1) := by decide +kernel
theorem dX3_openBlock_71 : decode cX3_openBlock 71 = .ok (.iastore, 1) := by decide +kernel
theorem dX3_openBlock_72 : decode cX3_openBlock 72 = .ok (.aload_n 0, 1) := by decide +kernel
theorem dX3_openBlock_73 : decode cX3_openBlock 73 = .ok (.getfield 42, 3) := by decide +kernel
theorem dX3_openBlock_76 : decode cX3_openBlock 76 = .ok (.aload_n 0, 1) := by decide +kernel
theorem dX3_openBlock_77 : decode cX3_openBlock 77 = .ok (.getfield 32, 3) := by decide +kernel
theorem dX3_openBlock_80 : decode cX3_openBlock 80 = .ok (.iload_n 2, 1) := by decide +kernel
theorem dX3_openBlock_81 : decode cX3_openBlock 81 = .ok (.bastore, 1) := by decide +kernel
theorem dX3_openBlock_82 : decode cX3_openBlock 82 = .ok (.aload_n 0, 1) := by decide +kernel
theorem dX3_openBlock_83 : decode cX3_openBlock 83 = .ok (.dup, 1) := by decide +kernel
theorem dX3_openBlock_84 : decode cX3_openBlock 84 = .ok (.getfield 32, 3) := by decide +kernel
theorem dX3_openBlock_87 : decode cX3_openBlock 87 = .ok (.iconst 1, 1) := by decide +kernel
theorem dX3_openBlock_88 : decode cX3_openBlock 88 = .ok (.iadd, 1) := by decide +kernel
theorem dX3_openBlock_89 : decode cX3_openBlock 89 = .ok (.putfield 32, 3) := by decide +kernel
theorem dX3_openBlock_92 : decode cX3_openBlock 92 = .ok (.return_, 1) := by decide +kernel
theorem dX3_readNumber_0 : decode cX3_readNumber 0 = .ok (.aload_n 0, 1) := by decide +kernel
theorem dX3_readNumber_1 : decode cX3_readNumber 1 = .ok (.getfield 19, 3) := by decide +kernel
theorem dX3_readNumber_4 : decode cX3_readNumber 4 = .ok (.istore_n 1, 1) := by decide +kernel
theorem dX3_readNumber_5 : decode cX3_readNumber 5 = .ok (.iconst 0, 1) := by decide +kernel
theorem dX3_readNumber_6 : decode cX3_readNumber 6 = .ok (.istore_n 2, 1) := by decide +kernel
theorem dX3_readNumber_7 : decode cX3_readNumber 7 = .ok (.aload_n 0, 1) := by decide +kernel
theorem dX3_readNumber_8 : decode cX3_readNumber 8 = .ok (.getfield 19, 3) := by decide +kernel
theorem dX3_readNumber_11 : decode cX3_readNumber 11 = .ok (.aload_n 0, 1) := by decide +kernel
theorem dX3_readNumber_12 : decode cX3_readNumber 12 = .ok (.getfield 15, 3) := by decide +kernel
theorem dX3_readNumber_15 : decode cX3_readNumber 15 = .ok (.if_icmp .ge 59, 3) := by decide +kernel
theorem dX3_readNumber_18 : decode cX3_readNumber 18 = .ok (.aload_n 0, 1) := by decide +kernel
theorem dX3_readNumber_19 : decode cX3_readNumber 19 = .ok (.getfield 9, 3) := by decide +kernel
theorem dX3_readNumber_22 : decode cX3_readNumber 22 = .ok (.aload_n 0, 1) := by decide +kernel
theorem dX3_readNumber_23 : decode cX3_readNumber 23 = .ok (.getfield 19, 3) := by decide +kernel
theorem dX3_readNumber_26 : decode cX3_readNumber 26 = .ok (.baload, 1) := by decide +kernel
theorem dX3_readNumber_27 : decode cX3_readNumber 27 = .ok (.invokestatic 210, 3) := by decide +kernel
theorem dX3_readNumber_30 : decode cX3_readNumber 30 = .ok (.ifCond .eq 44, 3) := by decide +kernel
theorem dX3_readNumber_33 : decode cX3_readNumber 33 = .ok (.aload_n 0, 1) := by decide +kernel
theorem dX3_readNumber_34 : decode cX3_readNumber 34 = .ok (.getfield 19, 3) := by decide +kernel
theorem dX3_readNumber_37 : decode cX3_readNumber 37 = .ok (.iload_n 1, 1) := by decide +kernel
theorem dX3_readNumber_38 : decode cX3_readNumber 38 = .ok (.isub, 1) := by decide +kernel
theorem dX3_readNumber_39 : decode cX3_readNumber 39 = .ok (.iconst 3, 1) := by decide +kernel
theorem dX3_readNumber_40 : decode cX3_readNumber 40 = .ok (.if_icmp .ge 21, 3) := by decide +kernel
theorem dX3_readNumber_43 : decode cX3_readNumber 43 = .ok (.iload_n 2, 1) := by decide +kernel
theorem dX3_readNumber_44 : decode cX3_readNumber 44 = .ok (.bipush 10, 2) := by decide +kernel
theorem dX3_readNumber_46 : decode cX3_readNumber 46 = .ok (.imul, 1) := by decide +kernel
theorem dX3_readNumber_47 : decode cX3_readNumber 47 = .ok (.aload_n 0, 1) := by decide +kernel
theorem dX3_readNumber_48 : decode cX3_readNumber 48 = .ok (.getfield 9, 3) := by decide +kernel
theorem dX3_readNumber_51 : decode cX3_readNumber 51 = .ok (.aload_n 0, 1) := by decide +kernel
theorem dX3_readNumber_52 : decode cX3_readNumber 52 = .ok (.getfield 19, 3) := by decide +kernel
theorem dX3_readNumber_55 : decode cX3_readNumber 55 = .ok (.baload, 1) := by decide +kernel
theorem dX3_readNumber_56 : decode cX3_readNumber 56 = .ok (.iadd, 1) := by decide +kernel
theorem dX3_readNumber_57 : decode cX3_readNumber 57 = .ok (.bipush 48, 2) := by decide +kernel
theorem dX3_readNumber_59 : decode cX3_readNumber 59 = .ok (.isub, 1) := by decide +kernel
theorem dX3_readNumber_60 : decode cX3_readNumber 60 = .ok (.istore_n 2, 1) := by decide +kernel
theorem dX3_readNumber_61 : decode cX3_readNumber 61 = .ok (.aload_n 0, 1) := by decide +kernel
theorem dX3_readNumber_62 : decode cX3_readNumber 62 = .ok (.dup, 1) := by decide +kernel
theorem dX3_readNumber_63 : decode cX3_readNumber 63 = .ok (.getfield 19, 3) := by decide +kernel
theorem dX3_readNumber_66 : decode cX3_readNumber 66 = .ok (.iconst 1, 1) := by decide +kernel
theorem dX3_readNumber_67 : decode cX3_readNumber 67 = .ok (.iadd, 1) := by decide +kernel
theorem dX3_readNumber_68 : decode cX3_readNumber 68 = .ok (.putfield 19, 3) := by decide +kernel
theorem dX3_readNumber_71 : decode cX3_readNumber 71 = .ok (.goto (-64), 3) := by decide +kernel
theorem dX3_readNumber_74 : decode cX3_readNumber 74 = .ok (.aload_n 0, 1) := by decide +kernel
theorem dX3_readNumber_75 : decode cX3_readNumber 75 = .ok (.getfield 19, 3) := by decide +kernel
theorem dX3_readNumber_78 : decode cX3_readNumber 78 = .ok (.iload_n 1, 1) := by decide +kernel
theorem dX3_readNumber_79 : decode cX3_readNumber 79 = .ok (.isub, 1) := by decide +kernel
theorem dX3_readNumber_80 : decode cX3_readNumber 80 = .ok (.iconst 3, 1) := by decide +kernel
theorem dX3_readNumber_81 : decode cX3_readNumber 81 = .ok (.if_icmp .le 9, 3) := by decide +kernel
theorem dX3_readNumber_84 : decode cX3_readNumber 84 = .ok (.aload_n 0, 1) := by decide +kernel
theorem dX3_readNumber_85 : decode cX3_readNumber 85 = .ok (.iconst 2, 1) := by decide +kernel
theorem dX3_readNumber_86 : decode cX3_readNumber 86 = .ok (.iload_n 1, 1) := by decide +kernel
theorem dX3_readNumber_87 : decode cX3_readNumber 87 = .ok (.invokevirtual 101, 3) := by decide +kernel
theorem dX3_readNumber_90 : decode cX3_readNumber 90 = .ok (.iload_n 2, 1) := by decide +kernel
theorem dX3_readNumber_91 : decode cX3_readNumber 91 = .ok (.ireturn, 1) := by decide +kernel
theorem dX3_readOperand_0 : decode cX3_readOperand 0 = .ok (.aload_n 0, 1) := by decide +kernel
theorem dX3_readOperand_1 : decode cX3_readOperand 1 = .ok (.invokevirtual 66, 3) := by decide +kernel
theorem dX3_readOperand_4 : decode cX3_readOperand 4 = .ok (.istore_n 1, 1) := by decide +kernel
theorem dX3_readOperand_5 : decode cX3_readOperand 5 = .ok (.iload_n 1, 1) := by decide +kernel
theorem dX3_readOperand_6 : decode cX3_readOperand 6 = .ok (.invokestatic 210, 3) := by decide +kernel
theorem dX3_readOperand_9 : decode cX3_readOperand 9 = .ok (.ifCond .eq 11, 3) := by decide +kernel
theorem dX3_readOperand_12 : decode cX3_readOperand 12 = .ok (.bipush 10, 2) := by decide +kernel
theorem dX3_readOperand_14 : decode cX3_readOperand 14 = .ok (.aload_n 0, 1) := by decide +kernel
theorem dX3_readOperand_15 : decode cX3_readOperand 15 = .ok (.invokevirtual 213, 3) := by decide +kernel
theorem dX3_readOperand_18 : decode cX3_readOperand 18 = .ok (.iadd, 1) := by decide +kernel
theorem dX3_readOperand_19 : decode cX3_readOperand 19 = .ok (.ireturn, 1) := by decide +kernel
theorem dX3_readOperand_20 : decode cX3_readOperand 20 = .ok (.iload_n 1, 1) := by decide +kernel
theorem dX3_readOperand_21 : decode cX3_readOperand 21 = .ok (.invokestatic 137, 3) := by decide +kernel
theorem dX3_readOperand_24 : decode cX3_readOperand 24 = .ok (.istore_n 2, 1) := by decide +kernel
theorem dX3_readOperand_25 : decode cX3_readOperand 25 = .ok (.iload_n 2, 1) := by decide +kernel
theorem dX3_readOperand_26 : decode cX3_readOperand 26 = .ok (.iconst (-1), 1) := by decide +kernel
theorem dX3_readOperand_27 : decode cX3_readOperand 27 = .ok (.if_icmp .ne 15, 3) := by decide +kernel
theorem dX3_readOperand_30 : decode cX3_readOperand 30 = .ok (.aload_n 0, 1) := by decide +kernel
theorem dX3_readOperand_31 : decode cX3_readOperand 31 = .ok (.iconst 1, 1) := by decide +kernel
theorem dX3_readOperand_32 : decode cX3_readOperand 32 = .ok (.aload_n 0, 1) := by decide +kernel
theorem dX3_readOperand_33 : decode cX3_readOperand 33 = .ok (.getfield 19, 3) := by decide +kernel
theorem dX3_readOperand_36 : decode cX3_readOperand 36 = .ok (.invokevirtual 101, 3) := by decide +kernel
theorem dX3_readOperand_39 : decode cX3_readOperand 39 = .ok (.goto 13, 3) := by decide +kernel
theorem dX3_readOperand_42 : decode cX3_readOperand 42 = .ok (.aload_n 0, 1) := by decide +kernel
theorem dX3_readOperand_43 : decode cX3_readOperand 43 = .ok (.dup, 1) := by decide +kernel
theorem dX3_readOperand_44 : decode cX3_readOperand 44 = .ok (.getfield 19, 3) := by decide +kernel
theorem dX3_readOperand_47 : decode cX3_readOperand 47 = .ok (.iconst 1, 1) := by decide +kernel
theorem dX3_readOperand_48 : decode cX3_readOperand 48 = .ok (.iadd, 1) := by decide +kernel
theorem dX3_readOperand_49 : decode cX3_readOperand 49 = .ok (.putfield 19, 3) := by decide +kernel
theorem dX3_readOperand_52 : decode cX3_readOperand 52 = .ok (.iload_n 2, 1) := by decide +kernel
theorem dX3_readOperand_53 : decode cX3_readOperand 53 = .ok (.ireturn, 1) := by decide +kernel
theorem dX3_take_0 : decode cX3_take 0 = .ok (.aload_n 0, 1) := by decide +kernel
theorem dX3_take_1 : decode cX3_take 1 = .ok (.invokevirtual 66, 3) := by decide +kernel
theorem dX3_take_4 : decode cX3_take 4 = .ok (.iload_n 1, 1) := by decide +kernel
theorem dX3_take_5 : decode cX3_take 5 = .ok (.if_icmp .ne 16, 3) := by decide +kernel
theorem dX3_take_8 : decode cX3_take 8 = .ok (.aload_n 0, 1) := by decide +kernel
theorem dX3_take_9 : decode cX3_take 9 = .ok (.dup, 1) := by decide +kernel
theorem dX3_take_10 : decode cX3_take 10 = .ok (.getfield 19, 3) := by decide +kernel
theorem dX3_take_13 : decode cX3_take 13 = .ok (.iconst 1, 1) := by decide +kernel
theorem dX3_take_14 : decode cX3_take 14 = .ok (.iadd, 1) := by decide +kernel
theorem dX3_take_15 : decode cX3_take 15 = .ok (.putfield 19, 3) := by decide +kernel
theorem dX3_take_18 : decode cX3_take 18 = .ok (.goto 12, 3) := by decide +kernel
theorem dX3_take_21 : decode cX3_take 21 = .ok (.aload_n 0, 1) := by decide +kernel
theorem dX3_take_22 : decode cX3_take 22 = .ok (.iconst 1, 1) := by decide +kernel
theorem dX3_take_23 : decode cX3_take 23 = .ok (.aload_n 0, 1) := by decide +kernel
theorem dX3_take_24 : decode cX3_take 24 = .ok (.getfield 19, 3) := by decide +kernel
theorem dX3_take_27 : decode cX3_take 27 = .ok (.invokevirtual 101, 3) := by decide +kernel
theorem dX3_take_30 : decode cX3_take 30 = .ok (.return_, 1) := by decide +kernel
theorem dX5_add_0 : decode cX5_add 0 = .ok (.aload_n 0, 1) := by decide +kernel
theorem dX5_add_1 : decode cX5_add 1 = .ok (.getfield 9, 3) := by decide +kernel
theorem dX5_add_4 : decode cX5_add 4 = .ok (.sipush 128, 3) := by decide +kernel
theorem dX5_add_7 : decode cX5_add 7 = .ok (.if_icmp .lt 5, 3) := by decide +kernel
theorem dX5_add_10 : decode cX5_add 10 = .ok (.iconst (-1), 1) := by decide +kernel
theorem dX5_add_11 : decode cX5_add 11 = .ok (.ireturn, 1) := by decide +kernel
theorem dX5_add_12 : decode cX5_add 12 = .ok (.aload_n 0, 1) := by decide +kernel
theorem dX5_add_13 : decode cX5_add 13 = .ok (.getfield 9, 3) := by decide +kernel
theorem dX5_add_16 : decode cX5_add 16 = .ok (.istore_n 2, 1) := by decide +kernel
theorem dX5_add_17 : decode cX5_add 17 = .ok (.aload_n 0, 1) := by decide +kernel
theorem dX5_add_18 : decode cX5_add 18 = .ok (.dup, 1) := by decide +kernel
theorem dX5_add_19 : decode cX5_add 19 = .ok (.getfield 9, 3) := by decide +kernel
theorem dX5_add_22 : decode cX5_add 22 = .ok (.iconst 1, 1) := by decide +kernel
theorem dX5_add_23 : decode cX5_add 23 = .ok (.iadd, 1) := by decide +kernel
theorem dX5_add_24 : decode cX5_add 24 = .ok (.putfield 9, 3) := by decide +kernel
theorem dX5_add_27 : decode cX5_add 27 = .ok (.aload_n 0, 1) := by decide +kernel
theorem dX5_add_28 : decode cX5_add 28 = .ok (.getfield 15, 3) := by decide +kernel
theorem dX5_add_31 : decode cX5_add 31 = .ok (.iload_n 2, 1) := by decide +kernel
theorem dX5_add_32 : decode cX5_add 32 = .ok (.iload_n 1, 1) := by decide +kernel
theorem dX5_add_33 : decode cX5_add 33 = .ok (.iastore, 1) := by decide +kernel
theorem dX5_add_34 : decode cX5_add 34 = .ok (.aload_n 0, 1) := by decide +kernel
theorem dX5_add_35 : decode cX5_add 35 = .ok (.getfield 19, 3) := by decide +kernel
theorem dX5_add_38 : decode cX5_add 38 = .ok (.iload_n 2, 1) := by decide +kernel
theorem dX5_add_39 : decode cX5_add 39 = .ok (.iconst (-1), 1) := by decide +kernel
theorem dX5_add_40 : decode cX5_add 40 = .ok (.iastore, 1) := by decide +kernel
theorem dX5_add_41 : decode cX5_add 41 = .ok (.aload_n 0, 1) := by decide +kernel
theorem dX5_add_42 : decode cX5_add 42 = .ok (.getfield 22, 3) := by decide +kernel
theorem dX5_add_45 : decode cX5_add 45 = .ok (.iload_n 2, 1) := by decide +kernel
theorem dX5_add_46 : decode cX5_add 46 = .ok (.iconst (-1), 1) := by decide +kernel
theorem dX5_add_47 : decode cX5_add 47 = .ok (.iastore, 1) := by decide +kernel
theorem dX5_add_48 : decode cX5_add 48 = .ok (.aload_n 0, 1) := by decide +kernel
theorem dX5_add_49 : decode cX5_add 49 = .ok (.getfield 25, 3) := by decide +kernel
theorem dX5_add_52 : decode cX5_add 52 = .ok (.iload_n 2, 1) := by decide +kernel
theorem dX5_add_53 : decode cX5_add 53 = .ok (.iconst (-1), 1) := by decide +kernel
theorem dX5_add_54 : decode cX5_add 54 = .ok (.iastore, 1) := by decide +kernel
theorem dX5_add_55 : decode cX5_add 55 = .ok (.aload_n 0, 1) := by decide +kernel
theorem dX5_add_56 : decode cX5_add 56 = .ok (.getfield 28, 3) := by decide +kernel
theorem dX5_add_59 : decode cX5_add 59 = .ok (.iload_n 2, 1) := by decide +kernel
theorem dX5_add_60 : decode cX5_add 60 = .ok (.iconst (-1), 1) := by decide +kernel
theorem dX5_add_61 : decode cX5_add 61 = .ok (.iastore, 1) := by decide +kernel
theorem dX5_add_62 : decode cX5_add 62 = .ok (.iload_n 2, 1) := by decide +kernel
theorem dX5_add_63 : decode cX5_add 63 = .ok (.ireturn, 1) := by decide +kernel
theorem dX7_summary_0 : decode cX7_summary 0 = .ok (.aload_n 0, 1) := by decide +kernel
theorem dX7_summary_1 : decode cX7_summary 1 = .ok (.iload_n 1, 1) := by decide +kernel
theorem dX7_summary_2 : decode cX7_summary 2 = .ok (.invokevirtual 87, 3) := by decide +kernel
theorem dX7_summary_5 : decode cX7_summary 5 = .ok (.ifCond .eq 30, 3) := by decide +kernel
theorem dX7_summary_8 : decode cX7_summary 8 = .ok (.aload_n 0, 1) := by decide +kernel
theorem dX7_summary_9 : decode cX7_summary 9 = .ok (.getfield 23, 3) := by decide +kernel
theorem dX7_summary_12 : decode cX7_summary 12 = .ok (.getfield 91, 3) := by decide +kernel
theorem dX7_summary_15 : decode cX7_summary 15 = .ok (.iload_n 1, 1) := by decide +kernel
theorem dX7_summary_16 : decode cX7_summary 16 = .ok (.iaload, 1) := by decide +kernel
theorem dX7_summary_17 : decode cX7_summary 17 = .ok (.iconst 1, 1) := by decide +kernel
theorem dX7_summary_18 : decode cX7_summary 18 = .ok (.if_icmp .ne 17, 3) := by decide +kernel
theorem dX7_summary_21 : decode cX7_summary 21 = .ok (.iload_n 2, 1) := by decide +kernel
theorem dX7_summary_22 : decode cX7_summary 22 = .ok (.invokestatic 133, 3) := by decide +kernel
theorem dX7_summary_25 : decode cX7_summary 25 = .ok (.ifCond .eq 10, 3) := by decide +kernel
theorem dX7_summary_28 : decode cX7_summary 28 = .ok (.iload_n 3, 1) := by decide +kernel
theorem dX7_summary_29 : decode cX7_summary 29 = .ok (.invokestatic 133, 3) := by decide +kernel
theorem dX7_summary_32 : decode cX7_summary 32 = .ok (.ifCond .ne 5, 3) := by decide +kernel
theorem dX7_summary_35 : decode cX7_summary 35 = .ok (.iconst 0, 1) := by decide +kernel
theorem dX7_summary_36 : decode cX7_summary 36 = .ok (.ireturn, 1) := by decide +kernel
theorem dX7_summary_37 : decode cX7_summary 37 = .ok (.aload_n 0, 1) := by decide +kernel
theorem dX7_summary_38 : decode cX7_summary 38 = .ok (.getfield 42, 3) := by decide +kernel
theorem dX7_summary_41 : decode cX7_summary 41 = .ok (.aload_n 0, 1) := by decide +kernel
theorem dX7_summary_42 : decode cX7_summary 42 = .ok (.getfield 23, 3) := by decide +kernel
theorem dX7_summary_45 : decode cX7_summary 45 = .ok (.invokevirtual 113, 3) := by decide +kernel
theorem dX7_summary_48 : decode cX7_summary 48 = .ok (.aload_n 0, 1) := by decide +kernel
theorem dX7_summary_49 : decode cX7_summary 49 = .ok (.getfield 42, 3) := by decide +kernel
theorem dX7_summary_52 : decode cX7_summary 52 = .ok (.aload_n 0, 1) := by decide +kernel
theorem dX7_summary_53 : decode cX7_summary 53 = .ok (.getfield 23, 3) := by decide +kernel
theorem dX7_summary_56 : decode cX7_summary 56 = .ok (.getfield 101, 3) := by decide +kernel
theorem dX7_summary_59 : decode cX7_summary 59 = .ok (.iload_n 1, 1) := by decide +kernel
theorem dX7_summary_60 : decode cX7_summary 60 = .ok (.iaload, 1) := by decide +kernel
theorem dX7_summary_61 : decode cX7_summary 61 = .ok (.iload_n 2, 1) := by decide +kernel
theorem dX7_summary_62 : decode cX7_summary 62 = .ok (.iload_n 3, 1) := by decide +kernel
theorem dX7_summary_63 : decode cX7_summary 63 = .ok (.invokevirtual 136, 3) := by decide +kernel
theorem dX7_summary_66 : decode cX7_summary 66 = .ok (.ireturn, 1) := by decide +kernel
set_option maxHeartbeats 4000000 in
set_option maxRecDepth 100000 in
theorem s_X7_summary (l : Launch) (d : Nat) {P : PP} {h : HP} (hv : Iv P h) (a2 : Int32) (a3 : Int32) (a4 : Int32) : Mt l yX7_summary cX7_summary 4 (some .boolean) (d + 7) [.ref 0, .int a2, .int a3, .int a4] h 0 0 (fun r h' => ∃ v : Int32, r = some (.int v) ∧ 0 ≤ v.toInt ∧ v.toInt ≤ 1 ∧ Iv P h') := by
  refine Mt_iv hv (by decide) (Nat.le_of_ble_eq_true rfl) ?_
  show Go l RX7 cX7_summary 4 (g_rm (d + 7) 0 0) "summary" (some .boolean) 117 0 0 (fun _ _ => True) (fun r h' => ∃ v : Int32, r = some (.int v) ∧ 0 ≤ v.toInt ∧ v.toInt ≤ 1 ∧ Iv P h') 0 0 [(0, .ref 0), (1, .int a2), (2, .int a3), (3, .int a4)] [] h
  have key : ∀ n : Nat, (∀  (hx : HP), Iv P hx → (1 : Int) < n → Go l RX7 cX7_summary 4 (g_rm (d + 7) 0 0) "summary" (some .boolean) 117 0 0 (fun _ _ => True) (fun r h' => ∃ v : Int32, r = some (.int v) ∧ 0 ≤ v.toInt ∧ v.toInt ≤ 1 ∧ Iv P h') 0 35 [] [] hx) := by
    intro n
    induction n with
    | zero => exact (by intros; omega)
    | succ n ih =>
      refine ?_
      ·
        intro hx hvx hm
        refine go_iconst (pc := 35) (v := 0) (by decide) dX7_summary_35 ?_
        exact gi_zret (pc := 36) (ti_c (v := 0) (a := 0) (by decide)) (by omega) (by omega) ⟨_, rfl, (by rw [show (0 : Int32).toInt = 0 from (ti_c (v := 0) (a := 0) (by decide))]; omega), (by rw [show (0 : Int32).toInt = 0 from (ti_c (v := 0) (a := 0) (by decide))]; omega), hvx⟩ hvx dX7_summary_36
  refine go_aload_n (pc := 0) rfl dX7_summary_0 ?_
  refine go_iload_n (pc := 1) rfl dX7_summary_1 ?_
  refine go_invV (pc := 2) (sl := 0) (s_X7_isStatement l (d + 5) hv a2) mL_X7_87 iM_X7_isStatement sM_X7_isStatement (hv.sh rfl) rfl rfl rfl (Nat.le_of_ble_eq_true rfl) (show d + 5 + 1 + 1 ≤ d + 7 by omega) (show 8 + (2 + 11) + 40 * (d + 5 + 1) ≤ 40 * (d + 7) by omega) (g_c0 hv.ln) (Nat.le_of_ble_eq_true rfl) dX7_summary_2 ?_
  intro r h1 hq _
  obtain ⟨v2, rfl, v2l, v2u, rfl, f3⟩ := hq
  refine gf_if_eq (pc := 5) (tgt := 35) (ti_rfl v2) (by decide) dX7_summary_5 (fun q4 => ?_) (fun q4 => ?_)
  ·
    exact go_lv rfl ((key 14)  h hv  (by omega))
  ·
    refine go_aload_n (pc := 8) rfl dX7_summary_8 ?_
    refine gi_getC (pc := 9) hv fL_X7_23 rfl (Nat.le_of_ble_eq_true rfl) rfl (by decide) dX7_summary_9 (fun c5 hc5 fc5 => ?_)
    refine gi_getF (pc := 12) (q := c5 + 2) hv fL_X7_91 (by rcases hc5 with rfl | rfl <;> rfl) (Nat.le_of_ble_eq_true rfl) rfl (by rcases hc5 with rfl | rfl <;> exact hv.rf (by decide)) dX7_summary_12 ?_
    refine go_iload_n (pc := 15) rfl dX7_summary_15 ?_
    refine gi_iald (pc := 16) (lo := 0) (hi := 5) (len := 40) hv (ti_rfl a2) (by rcases hc5 with rfl | rfl <;> rfl) (by omega) (by omega) (fun _ => by rcases hc5 with rfl | rfl <;> rfl) dX7_summary_16 (fun v6 v6l v6u v6w => ?_)
    refine go_iconst (pc := 17) (v := 1) (by decide) dX7_summary_17 ?_
    refine gf_icmp_ne (pc := 18) (tgt := 35) (ti_rfl v6) (ti_c (v := 1) (a := 1) (by decide)) (by decide) dX7_summary_18 (fun q7 => ?_) (fun q7 => ?_)
    ·
      exact go_lv rfl ((key 14)  h hv  (by omega))
    ·
      refine go_iload_n (pc := 21) rfl dX7_summary_21 ?_
      refine go_invS (pc := 22) (sl := 0) (s_X7_isPort l (d + 5) hv a3) mL_X7_133 iM_X7_isPort rfl rfl (Nat.le_of_ble_eq_true rfl) (show d + 5 + 1 + 1 ≤ d + 7 by omega) (show 8 + (1 + 11) + 40 * (d + 5 + 1) ≤ 40 * (d + 7) by omega) (g_c0 hv.ln) (Nat.le_of_ble_eq_true rfl) dX7_summary_22 ?_
      intro r h8 hq _
      obtain ⟨v9, rfl, v9l, v9u, rfl, f10⟩ := hq
      refine gf_if_eq (pc := 25) (tgt := 35) (ti_rfl v9) (by decide) dX7_summary_25 (fun q11 => ?_) (fun q11 => ?_)
      ·
        exact go_lv rfl ((key 14)  h hv  (by omega))
      ·
        refine go_iload_n (pc := 28) rfl dX7_summary_28 ?_
        refine go_invS (pc := 29) (sl := 0) (s_X7_isPort l (d + 5) hv a4) mL_X7_133 iM_X7_isPort rfl rfl (Nat.le_of_ble_eq_true rfl) (show d + 5 + 1 + 1 ≤ d + 7 by omega) (show 8 + (1 + 11) + 40 * (d + 5 + 1) ≤ 40 * (d + 7) by omega) (g_c0 hv.ln) (Nat.le_of_ble_eq_true rfl) dX7_summary_29 ?_
        intro r h12 hq _
        obtain ⟨v13, rfl, v13l, v13u, rfl, f14⟩ := hq
        refine gf_if_ne (pc := 32) (tgt := 37) (ti_rfl v13) (by decide) dX7_summary_32 (fun q15 => ?_) (fun q15 => ?_)
        ·
          refine go_aload_n (pc := 37) rfl dX7_summary_37 ?_
          refine gi_getF (pc := 38) (q := 49) hv fL_X7_42 rfl (Nat.le_of_ble_eq_true rfl) rfl (hv.rf (by decide)) dX7_summary_38 ?_
          refine go_aload_n (pc := 41) rfl dX7_summary_41 ?_
          refine gi_getC (pc := 42) hv fL_X7_23 rfl (Nat.le_of_ble_eq_true rfl) rfl (by decide) dX7_summary_42 (fun c16 hc16 fc16 => ?_)
          refine go_invV (pc := 45) (sl := 0) (s_X4_prepare l (d + 0) hv c16 hc16) mL_X7_113 iM_X4_prepare sM_X4_prepare (hv.sh rfl) rfl rfl rfl (Nat.le_of_ble_eq_true rfl) (show d + 0 + 6 + 1 ≤ d + 7 by omega) (show 8 + (4 + 11) + 40 * (d + 0 + 6) ≤ 40 * (d + 7) by omega) (g_c0 hv.ln) (Nat.le_of_ble_eq_true rfl) dX7_summary_45 ?_
          intro r h17 hq _
          obtain ⟨rfl, hv17⟩ := hq
          refine go_aload_n (pc := 48) rfl dX7_summary_48 ?_
          refine gi_getF (pc := 49) (q := 49) hv17 fL_X7_42 rfl (Nat.le_of_ble_eq_true rfl) rfl (hv17.rf (by decide)) dX7_summary_49 ?_
          refine go_aload_n (pc := 52) rfl dX7_summary_52 ?_
          refine gi_getC (pc := 53) hv17 fL_X7_23 rfl (Nat.le_of_ble_eq_true rfl) rfl (by decide) dX7_summary_53 (fun c18 hc18 fc18 => ?_)
          refine gi_getF (pc := 56) (q := c18 + 7) hv17 fL_X7_101 (by rcases hc18 with rfl | rfl <;> rfl) (Nat.le_of_ble_eq_true rfl) rfl (by rcases hc18 with rfl | rfl <;> exact hv17.rf (by decide)) dX7_summary_56 ?_
          refine go_iload_n (pc := 59) rfl dX7_summary_59 ?_
          refine gi_iald (pc := 60) (lo := -2) (hi := 4) (len := 40) hv17 (ti_rfl a2) (by rcases hc18 with rfl | rfl <;> rfl) (by omega) (by omega) (fun _ => by rcases hc18 with rfl | rfl <;> rfl) dX7_summary_60 (fun v19 v19l v19u v19w => ?_)
          have kk : 0 ≤ v19.toInt := by rw [v19w]; exact hv.sum hv17 fc5 fc18 hc18 (by rw [← v6w]; omega)
          refine go_iload_n (pc := 61) rfl dX7_summary_61 ?_
          refine go_iload_n (pc := 62) rfl dX7_summary_62 ?_
          refine go_invV (pc := 63) (sl := 0) (s_X4_leadsThrough l (d + 4) hv17 v19 (by rw [show (v19 : Int32).toInt = v19.toInt from (ti_rfl v19)]; omega) (by rw [show (v19 : Int32).toInt = v19.toInt from (ti_rfl v19)]; omega) a3 a4 (by rw [show (a4 : Int32).toInt = a4.toInt from (ti_rfl a4)]; omega) (by rw [show (a4 : Int32).toInt = a4.toInt from (ti_rfl a4)]; omega)) mL_X7_136 iM_X4_leadsThrough sM_X4_leadsThrough (hv17.sh rfl) rfl rfl rfl (Nat.le_of_ble_eq_true rfl) (show d + 4 + 2 + 1 ≤ d + 7 by omega) (show 8 + (4 + 11) + 40 * (d + 4 + 2) ≤ 40 * (d + 7) by omega) (g_c0 hv17.ln) (Nat.le_of_ble_eq_true rfl) dX7_summary_63 ?_
          intro r h20 hq _
          obtain ⟨v21, rfl, v21l, v21u, rfl⟩ := hq
          exact gi_zret (pc := 66) (ti_rfl v21) (by omega) (by omega) ⟨_, rfl, (by rw [show (v21 : Int32).toInt = v21.toInt from (ti_rfl v21)]; omega), (by rw [show (v21 : Int32).toInt = v21.toInt from (ti_rfl v21)]; omega), hv17⟩ hv17 dX7_summary_66
        ·
          exact go_lv rfl ((key 14)  h hv  (by omega))
set_option maxHeartbeats 4000000 in
set_option maxRecDepth 100000 in
theorem s_X3_isDigit (l : Launch) (d : Nat) {P : PP} {h : HP} (hv : Iv P h) (a1 : Int32) : Mt l yX3_isDigit cX3_isDigit 1 (some .boolean) (d + 1) [.int a1] h 0 0 (fun r h' => ∃ v : Int32, r = some (.int v) ∧ 0 ≤ v.toInt ∧ v.toInt ≤ 1 ∧ h = h') := by
  refine Mt_iv hv (by decide) (Nat.le_of_ble_eq_true rfl) ?_
  show Go l RX3 cX3_isDigit 1 (g_rm (d + 1) 0 0) "isDigit" (some .boolean) 117 0 0 (fun _ _ => True) (fun r h' => ∃ v : Int32, r = some (.int v) ∧ 0 ≤ v.toInt ∧ v.toInt ≤ 1 ∧ h = h') 0 0 [(0, .int a1)] [] h
  have key : ∀ n : Nat, (∀ (_ : Unit), (2 : Int) < n → Go l RX3 cX3_isDigit 1 (g_rm (d + 1) 0 0) "isDigit" (some .boolean) 117 0 0 (fun _ _ => True) (fun r h' => ∃ v : Int32, r = some (.int v) ∧ 0 ≤ v.toInt ∧ v.toInt ≤ 1 ∧ h = h') 0 16 [] [] h) ∧ (∀ (s0 : Int32), 0 ≤ s0.toInt → s0.toInt ≤ 1 → (1 : Int) < n → Go l RX3 cX3_isDigit 1 (g_rm (d + 1) 0 0) "isDigit" (some .boolean) 117 0 0 (fun _ _ => True) (fun r h' => ∃ v : Int32, r = some (.int v) ∧ 0 ≤ v.toInt ∧ v.toInt ≤ 1 ∧ h = h') 0 17 [] [.int s0] h) := by
    intro n
    induction n with
    | zero => exact ⟨(by intros; omega), (by intros; omega)⟩
    | succ n ih =>
      refine ⟨?_, ?_⟩
      ·
        intro _ hm
        refine go_iconst (pc := 16) (v := 0) (by decide) dX3_isDigit_16 ?_
        have z1 : (0 : Int32).toInt = 0 := (ti_c (v := 0) (a := 0) (by decide))
        exact go_lv rfl (ih.2 0  (by omega) (by omega) (by omega))
      ·
        intro s0 s0l s0u hm
        exact gi_zret (pc := 17) (ti_rfl s0) (by omega) (by omega) ⟨_, rfl, (by rw [show (s0 : Int32).toInt = s0.toInt from (ti_rfl s0)]; omega), (by rw [show (s0 : Int32).toInt = s0.toInt from (ti_rfl s0)]; omega), rfl⟩ hv dX3_isDigit_17
  refine go_iload_n (pc := 0) rfl dX3_isDigit_0 ?_
  refine go_bipush (pc := 1) (v := 48) (by decide) dX3_isDigit_1 ?_
  refine gf_icmp_lt (pc := 3) (tgt := 16) (ti_rfl a1) (ti_c (v := 48) (a := 48) (by decide)) (by decide) dX3_isDigit_3 (fun q2 => ?_) (fun q2 => ?_)
  ·
    exact go_lv rfl ((key 15).1 ()   (by omega))
  ·
    refine go_iload_n (pc := 6) rfl dX3_isDigit_6 ?_
    refine go_bipush (pc := 7) (v := 57) (by decide) dX3_isDigit_7 ?_
    refine gf_icmp_gt (pc := 9) (tgt := 16) (ti_rfl a1) (ti_c (v := 57) (a := 57) (by decide)) (by decide) dX3_isDigit_9 (fun q3 => ?_) (fun q3 => ?_)
    ·
      exact go_lv rfl ((key 15).1 ()   (by omega))
    ·
      refine go_iconst (pc := 12) (v := 1) (by decide) dX3_isDigit_12 ?_
      refine go_goto (pc := 13) (tgt := 17) (by decide) dX3_isDigit_13 ?_
      have z4 : (1 : Int32).toInt = 1 := (ti_c (v := 1) (a := 1) (by decide))
      exact go_lv rfl ((key 15).2 1  (by omega) (by omega) (by omega))
set_option maxHeartbeats 4000000 in
set_option maxRecDepth 100000 in
theorem s_X3_nameOf (l : Launch) (d : Nat) {P : PP} {h : HP} (hv : Iv P h) (a1 : Int32) : Mt l yX3_nameOf cX3_nameOf 1 (some .int) (d + 1) [.int a1] h 0 0 (fun r h' => ∃ v : Int32, r = some (.int v) ∧ -1 ≤ v.toInt ∧ v.toInt ≤ 9 ∧ h = h' ∧ (0 ≤ v.toInt → 0 ≤ a1.toInt ∧ a1.toInt ≤ 255)) := by
  refine Mt_iv hv (by decide) (Nat.le_of_ble_eq_true rfl) ?_
  show Go l RX3 cX3_nameOf 1 (g_rm (d + 1) 0 0) "nameOf" (some .int) 117 0 0 (fun _ _ => True) (fun r h' => ∃ v : Int32, r = some (.int v) ∧ -1 ≤ v.toInt ∧ v.toInt ≤ 9 ∧ h = h' ∧ (0 ≤ v.toInt → 0 ≤ a1.toInt ∧ a1.toInt ≤ 255)) 0 0 [(0, .int a1)] [] h
  refine go_iload_n (pc := 0) rfl dX3_nameOf_0 ?_
  refine go_bipush (pc := 1) (v := 97) (by decide) dX3_nameOf_1 ?_
  refine gf_icmp_lt (pc := 3) (tgt := 17) (ti_rfl a1) (ti_c (v := 97) (a := 97) (by decide)) (by decide) dX3_nameOf_3 (fun q1 => ?_) (fun q1 => ?_)
  ·
    refine go_iload_n (pc := 17) rfl dX3_nameOf_17 ?_
    refine go_bipush (pc := 18) (v := 119) (by decide) dX3_nameOf_18 ?_
    refine gf_icmp_lt (pc := 20) (tgt := 39) (ti_rfl a1) (ti_c (v := 119) (a := 119) (by decide)) (by decide) dX3_nameOf_20 (fun q2 => ?_) (fun q2 => False.elim (by omega))
    refine go_iconst (pc := 39) (v := (-1)) (by decide) dX3_nameOf_39 ?_
    exact gi_iret (pc := 40) (ti_c (v := (-1)) (a := (-1)) (by decide)) ⟨_, rfl, (by rw [show ((-1) : Int32).toInt = (-1) from (ti_c (v := (-1)) (a := (-1)) (by decide))]; omega), (by rw [show ((-1) : Int32).toInt = (-1) from (ti_c (v := (-1)) (a := (-1)) (by decide))]; omega), rfl, (by rw [show ((-1) : Int32).toInt = (-1) from (ti_c (v := (-1)) (a := (-1)) (by decide))]; omega)⟩ hv dX3_nameOf_40
  ·
    refine go_iload_n (pc := 6) rfl dX3_nameOf_6 ?_
    refine go_bipush (pc := 7) (v := 102) (by decide) dX3_nameOf_7 ?_
    refine gf_icmp_gt (pc := 9) (tgt := 17) (ti_rfl a1) (ti_c (v := 102) (a := 102) (by decide)) (by decide) dX3_nameOf_9 (fun q3 => ?_) (fun q3 => ?_)
    ·
      refine go_iload_n (pc := 17) rfl dX3_nameOf_17 ?_
      refine go_bipush (pc := 18) (v := 119) (by decide) dX3_nameOf_18 ?_
      refine gf_icmp_lt (pc := 20) (tgt := 39) (ti_rfl a1) (ti_c (v := 119) (a := 119) (by decide)) (by decide) dX3_nameOf_20 (fun q4 => ?_) (fun q4 => ?_)
      ·
        refine go_iconst (pc := 39) (v := (-1)) (by decide) dX3_nameOf_39 ?_
        exact gi_iret (pc := 40) (ti_c (v := (-1)) (a := (-1)) (by decide)) ⟨_, rfl, (by rw [show ((-1) : Int32).toInt = (-1) from (ti_c (v := (-1)) (a := (-1)) (by decide))]; omega), (by rw [show ((-1) : Int32).toInt = (-1) from (ti_c (v := (-1)) (a := (-1)) (by decide))]; omega), rfl, (by rw [show ((-1) : Int32).toInt = (-1) from (ti_c (v := (-1)) (a := (-1)) (by decide))]; omega)⟩ hv dX3_nameOf_40
      ·
        refine go_iload_n (pc := 23) rfl dX3_nameOf_23 ?_
        refine go_bipush (pc := 24) (v := 122) (by decide) dX3_nameOf_24 ?_
        refine gf_icmp_gt (pc := 26) (tgt := 39) (ti_rfl a1) (ti_c (v := 122) (a := 122) (by decide)) (by decide) dX3_nameOf_26 (fun q5 => ?_) (fun q5 => ?_)
        ·
          refine go_iconst (pc := 39) (v := (-1)) (by decide) dX3_nameOf_39 ?_
          exact gi_iret (pc := 40) (ti_c (v := (-1)) (a := (-1)) (by decide)) ⟨_, rfl, (by rw [show ((-1) : Int32).toInt = (-1) from (ti_c (v := (-1)) (a := (-1)) (by decide))]; omega), (by rw [show ((-1) : Int32).toInt = (-1) from (ti_c (v := (-1)) (a := (-1)) (by decide))]; omega), rfl, (by rw [show ((-1) : Int32).toInt = (-1) from (ti_c (v := (-1)) (a := (-1)) (by decide))]; omega)⟩ hv dX3_nameOf_40
        ·
          refine go_bipush (pc := 29) (v := 6) (by decide) dX3_nameOf_29 ?_
          refine go_iload_n (pc := 31) rfl dX3_nameOf_31 ?_
          refine gf_iadd (pc := 32) (ti_c (v := 6) (a := 6) (by decide)) (ti_rfl a1) (by omega) (by omega) dX3_nameOf_32 (fun v6 e7 => ?_)
          refine go_bipush (pc := 33) (v := 119) (by decide) dX3_nameOf_33 ?_
          refine gf_isub (pc := 35) e7 (ti_c (v := 119) (a := 119) (by decide)) (by omega) (by omega) dX3_nameOf_35 (fun v8 e9 => ?_)
          refine go_goto (pc := 36) (tgt := 40) (by decide) dX3_nameOf_36 ?_
          exact gi_iret (pc := 40) e9 ⟨_, rfl, (by rw [show (v8 : Int32).toInt = ((6 + a1.toInt) - 119) from e9]; omega), (by rw [show (v8 : Int32).toInt = ((6 + a1.toInt) - 119) from e9]; omega), rfl, (by rw [show (v8 : Int32).toInt = ((6 + a1.toInt) - 119) from e9]; omega)⟩ hv dX3_nameOf_40
    ·
      refine go_iload_n (pc := 12) rfl dX3_nameOf_12 ?_
      refine go_bipush (pc := 13) (v := 97) (by decide) dX3_nameOf_13 ?_
      refine gf_isub (pc := 15) (ti_rfl a1) (ti_c (v := 97) (a := 97) (by decide)) (by omega) (by omega) dX3_nameOf_15 (fun v10 e11 => ?_)
      exact gi_iret (pc := 16) e11 ⟨_, rfl, (by rw [show (v10 : Int32).toInt = (a1.toInt - 97) from e11]; omega), (by rw [show (v10 : Int32).toInt = (a1.toInt - 97) from e11]; omega), rfl, (by rw [show (v10 : Int32).toInt = (a1.toInt - 97) from e11]; omega)⟩ hv dX3_nameOf_16
set_option maxHeartbeats 4000000 in
set_option maxRecDepth 100000 in
theorem s_X3_kindBegunBy (l : Launch) (d : Nat) {P : PP} {h : HP} (hv : Iv P h) (a1 : Int32) : Mt l yX3_kindBegunBy cX3_kindBegunBy 1 (some .int) (d + 2) [.int a1] h 0 0 (fun r h' => ∃ v : Int32, r = some (.int v) ∧ -1 ≤ v.toInt ∧ v.toInt ≤ 5 ∧ h = h' ∧ (0 ≤ v.toInt → 0 ≤ a1.toInt ∧ a1.toInt ≤ 255) ∧ (¬ v.toInt = 1)) := by
  refine Mt_iv hv (by decide) (Nat.le_of_ble_eq_true rfl) ?_
  show Go l RX3 cX3_kindBegunBy 1 (g_rm (d + 2) 0 0) "kindBegunBy" (some .int) 117 0 0 (fun _ _ => True) (fun r h' => ∃ v : Int32, r = some (.int v) ∧ -1 ≤ v.toInt ∧ v.toInt ≤ 5 ∧ h = h' ∧ (0 ≤ v.toInt → 0 ≤ a1.toInt ∧ a1.toInt ≤ 255) ∧ (¬ v.toInt = 1)) 0 0 [(0, .int a1)] [] h
  refine go_iload_n (pc := 0) rfl dX3_kindBegunBy_0 ?_
  by_cases q1 : a1.toInt = 33
  ·
    refine go_lookup (pc := 1) (tgt := 48) (off := 47) (by decide) (by rw [show (a1 : Int32).toInt = a1.toInt from (ti_rfl a1), q1]; decide) (by decide) dX3_kindBegunBy_1 ?_
    refine go_iconst (pc := 48) (v := 4) (by decide) dX3_kindBegunBy_48 ?_
    exact gi_iret (pc := 49) (ti_c (v := 4) (a := 4) (by decide)) ⟨_, rfl, (by rw [show (4 : Int32).toInt = 4 from (ti_c (v := 4) (a := 4) (by decide))]; omega), (by rw [show (4 : Int32).toInt = 4 from (ti_c (v := 4) (a := 4) (by decide))]; omega), rfl, (by rw [show (4 : Int32).toInt = 4 from (ti_c (v := 4) (a := 4) (by decide))]; omega), (by rw [show (4 : Int32).toInt = 4 from (ti_c (v := 4) (a := 4) (by decide))]; omega)⟩ hv dX3_kindBegunBy_49
  by_cases q2 : a1.toInt = 63
  ·
    refine go_lookup (pc := 1) (tgt := 44) (off := 43) (by decide) (by rw [show (a1 : Int32).toInt = a1.toInt from (ti_rfl a1), q2]; decide) (by decide) dX3_kindBegunBy_1 ?_
    refine go_iconst (pc := 44) (v := 2) (by decide) dX3_kindBegunBy_44 ?_
    exact gi_iret (pc := 45) (ti_c (v := 2) (a := 2) (by decide)) ⟨_, rfl, (by rw [show (2 : Int32).toInt = 2 from (ti_c (v := 2) (a := 2) (by decide))]; omega), (by rw [show (2 : Int32).toInt = 2 from (ti_c (v := 2) (a := 2) (by decide))]; omega), rfl, (by rw [show (2 : Int32).toInt = 2 from (ti_c (v := 2) (a := 2) (by decide))]; omega), (by rw [show (2 : Int32).toInt = 2 from (ti_c (v := 2) (a := 2) (by decide))]; omega)⟩ hv dX3_kindBegunBy_45
  by_cases q3 : a1.toInt = 64
  ·
    refine go_lookup (pc := 1) (tgt := 46) (off := 45) (by decide) (by rw [show (a1 : Int32).toInt = a1.toInt from (ti_rfl a1), q3]; decide) (by decide) dX3_kindBegunBy_1 ?_
    refine go_iconst (pc := 46) (v := 3) (by decide) dX3_kindBegunBy_46 ?_
    exact gi_iret (pc := 47) (ti_c (v := 3) (a := 3) (by decide)) ⟨_, rfl, (by rw [show (3 : Int32).toInt = 3 from (ti_c (v := 3) (a := 3) (by decide))]; omega), (by rw [show (3 : Int32).toInt = 3 from (ti_c (v := 3) (a := 3) (by decide))]; omega), rfl, (by rw [show (3 : Int32).toInt = 3 from (ti_c (v := 3) (a := 3) (by decide))]; omega), (by rw [show (3 : Int32).toInt = 3 from (ti_c (v := 3) (a := 3) (by decide))]; omega)⟩ hv dX3_kindBegunBy_47
  by_cases q4 : a1.toInt = 94
  ·
    refine go_lookup (pc := 1) (tgt := 50) (off := 49) (by decide) (by rw [show (a1 : Int32).toInt = a1.toInt from (ti_rfl a1), q4]; decide) (by decide) dX3_kindBegunBy_1 ?_
    refine go_iconst (pc := 50) (v := 5) (by decide) dX3_kindBegunBy_50 ?_
    exact gi_iret (pc := 51) (ti_c (v := 5) (a := 5) (by decide)) ⟨_, rfl, (by rw [show (5 : Int32).toInt = 5 from (ti_c (v := 5) (a := 5) (by decide))]; omega), (by rw [show (5 : Int32).toInt = 5 from (ti_c (v := 5) (a := 5) (by decide))]; omega), rfl, (by rw [show (5 : Int32).toInt = 5 from (ti_c (v := 5) (a := 5) (by decide))]; omega), (by rw [show (5 : Int32).toInt = 5 from (ti_c (v := 5) (a := 5) (by decide))]; omega)⟩ hv dX3_kindBegunBy_51
  refine go_lookup (pc := 1) (tgt := 52) (off := 51) (by decide) (by rw [show (a1 : Int32).toInt = a1.toInt from (ti_rfl a1)]; simp [Op.lookupswitch.offset]; (repeat rw [if_neg (by omega)])) (by decide) dX3_kindBegunBy_1 ?_
  refine go_iload_n (pc := 52) rfl dX3_kindBegunBy_52 ?_
  refine go_invS (pc := 53) (sl := 0) (s_X3_nameOf l (d + 0) hv a1) mL_X3_137 iM_X3_nameOf rfl rfl (Nat.le_of_ble_eq_true rfl) (show d + 0 + 1 + 1 ≤ d + 2 by omega) (show 8 + (1 + 11) + 40 * (d + 0 + 1) ≤ 40 * (d + 2) by omega) (g_c0 hv.ln) (Nat.le_of_ble_eq_true rfl) dX3_kindBegunBy_53 ?_
  intro r h5 hq _
  obtain ⟨v7, rfl, v7l, v7u, rfl, f6⟩ := hq
  refine go_iconst (pc := 56) (v := (-1)) (by decide) dX3_kindBegunBy_56 ?_
  refine gf_icmp_ne (pc := 57) (tgt := 64) (ti_rfl v7) (ti_c (v := (-1)) (a := (-1)) (by decide)) (by decide) dX3_kindBegunBy_57 (fun q8 => ?_) (fun q8 => ?_)
  ·
    refine go_iconst (pc := 64) (v := 0) (by decide) dX3_kindBegunBy_64 ?_
    exact gi_iret (pc := 65) (ti_c (v := 0) (a := 0) (by decide)) ⟨_, rfl, (by rw [show (0 : Int32).toInt = 0 from (ti_c (v := 0) (a := 0) (by decide))]; omega), (by rw [show (0 : Int32).toInt = 0 from (ti_c (v := 0) (a := 0) (by decide))]; omega), rfl, (by rw [show (0 : Int32).toInt = 0 from (ti_c (v := 0) (a := 0) (by decide))]; omega), (by rw [show (0 : Int32).toInt = 0 from (ti_c (v := 0) (a := 0) (by decide))]; omega)⟩ hv dX3_kindBegunBy_65
  ·
    refine go_iconst (pc := 60) (v := (-1)) (by decide) dX3_kindBegunBy_60 ?_
    refine go_goto (pc := 61) (tgt := 65) (by decide) dX3_kindBegunBy_61 ?_
    exact gi_iret (pc := 65) (ti_c (v := (-1)) (a := (-1)) (by decide)) ⟨_, rfl, (by rw [show ((-1) : Int32).toInt = (-1) from (ti_c (v := (-1)) (a := (-1)) (by decide))]; omega), (by rw [show ((-1) : Int32).toInt = (-1) from (ti_c (v := (-1)) (a := (-1)) (by decide))]; omega), rfl, (by rw [show ((-1) : Int32).toInt = (-1) from (ti_c (v := (-1)) (a := (-1)) (by decide))]; omega), (by rw [show ((-1) : Int32).toInt = (-1) from (ti_c (v := (-1)) (a := (-1)) (by decide))]; omega)⟩ hv dX3_kindBegunBy_65
set_option maxHeartbeats 4000000 in
set_option maxRecDepth 100000 in
theorem s_X3_blame (l : Launch) (d : Nat) {P : PP} {h : HP} (hv : Iv P h) (a2 : Int32) (a2l : 1 ≤ a2.toInt) (a2u : a2.toInt ≤ 6) (a3 : Int32) (a3l : 0 ≤ a3.toInt) (a3u : a3.toInt ≤ 500) : Mt l yX3_blame cX3_blame 3 none (d + 1) [.ref 34, .int a2, .int a3] h 0 0 (fun r h' => r = none ∧ Iv P h' ∧ (¬ (h'.2.1 34 3).toInt = 0) ∧ ((h'.2.1 34 2).toInt = (h.2.1 34 2).toInt) ∧ ((h'.2.1 34 1).toInt = (h.2.1 34 1).toInt) ∧ ((h'.2.1 34 7).toInt = (h.2.1 34 7).toInt) ∧ (PR h → PR h')) := by
  refine Mt_iv hv (by decide) (Nat.le_of_ble_eq_true rfl) ?_
  show Go l RX3 cX3_blame 3 (g_rm (d + 1) 0 0) "blame" none 117 0 0 (fun _ _ => True) (fun r h' => r = none ∧ Iv P h' ∧ (¬ (h'.2.1 34 3).toInt = 0) ∧ ((h'.2.1 34 2).toInt = (h.2.1 34 2).toInt) ∧ ((h'.2.1 34 1).toInt = (h.2.1 34 1).toInt) ∧ ((h'.2.1 34 7).toInt = (h.2.1 34 7).toInt) ∧ (PR h → PR h')) 0 0 [(0, .ref 34), (1, .int a2), (2, .int a3)] [] h
  have pr : PR h → PR h := id
  obtain ⟨u34_2, u34_2w⟩ : ∃ v : Int32, v = h.2.1 34 2 := ⟨_, rfl⟩
  have u34_2e : (h.2.1 34 2).toInt = u34_2.toInt := by rw [u34_2w]
  have u34_2l : 0 ≤ u34_2.toInt := by rw [u34_2w]; exact (hv.2.1 34 2).1
  have u34_2u : u34_2.toInt ≤ 500 := by rw [u34_2w]; exact (hv.2.1 34 2).2
  obtain ⟨u34_1, u34_1w⟩ : ∃ v : Int32, v = h.2.1 34 1 := ⟨_, rfl⟩
  have u34_1e : (h.2.1 34 1).toInt = u34_1.toInt := by rw [u34_1w]
  have u34_1l : 0 ≤ u34_1.toInt := by rw [u34_1w]; exact (hv.2.1 34 1).1
  have u34_1u : u34_1.toInt ≤ 500 := by rw [u34_1w]; exact (hv.2.1 34 1).2
  obtain ⟨u34_7, u34_7w⟩ : ∃ v : Int32, v = h.2.1 34 7 := ⟨_, rfl⟩
  have u34_7e : (h.2.1 34 7).toInt = u34_7.toInt := by rw [u34_7w]
  have u34_7l : 0 ≤ u34_7.toInt := by rw [u34_7w]; exact (hv.2.1 34 7).1
  have u34_7u : u34_7.toInt ≤ 7 := by rw [u34_7w]; exact (hv.2.1 34 7).2
  refine go_aload_n (pc := 0) rfl dX3_blame_0 ?_
  refine gi_get (pc := 1) (lo := -2147483648) (hi := 2147483647) hv fL_X3_22 rfl (Nat.le_of_ble_eq_true rfl) rfl rfl dX3_blame_1 (fun v1 v1l v1u v1w => ?_)
  have g2 : (h.2.1 34 3).toInt = v1.toInt := by rw [v1w]
  refine gf_if_ne (pc := 4) (tgt := 17) (ti_rfl v1) (by decide) dX3_blame_4 (fun q3 => ?_) (fun q3 => ?_)
  ·
    have g4 : (0 : Int) ≤ (h.2.1 34 1).toInt := (hv.2.1 34 1).1
    have g5 : (h.2.1 34 1).toInt ≤ 500 := (hv.2.1 34 1).2
    have g6 : (0 : Int) ≤ (h.2.1 34 2).toInt := (hv.2.1 34 2).1
    have g7 : (h.2.1 34 2).toInt ≤ 500 := (hv.2.1 34 2).2
    have g8 : (-2147483648 : Int) ≤ (h.2.1 34 3).toInt := (hv.2.1 34 3).1
    have g9 : (h.2.1 34 3).toInt ≤ 2147483647 := (hv.2.1 34 3).2
    have g10 : (0 : Int) ≤ (h.2.1 34 7).toInt := (hv.2.1 34 7).1
    have g11 : (h.2.1 34 7).toInt ≤ 7 := (hv.2.1 34 7).2
    have g12 : (h.2.1 34 2).toInt = u34_2.toInt := by rw [← (show u34_2 = h.2.1 34 2 from u34_2w)] <;> exact (ti_rfl u34_2)
    have g13 : (h.2.1 34 1).toInt = u34_1.toInt := by rw [← (show u34_1 = h.2.1 34 1 from u34_1w)] <;> exact (ti_rfl u34_1)
    have g14 : (h.2.1 34 7).toInt = u34_7.toInt := by rw [← (show u34_7 = h.2.1 34 7 from u34_7w)] <;> exact (ti_rfl u34_7)
    have g15 : (h.2.1 34 3).toInt = v1.toInt := by rw [← (show v1 = h.2.1 34 3 from v1w)] <;> exact (ti_rfl v1)
    exact gi_vret (pc := 17) ⟨rfl, hv, (by omega), (by omega), (by omega), (by omega), pr⟩ hv dX3_blame_17
  ·
    refine go_aload_n (pc := 7) rfl dX3_blame_7 ?_
    refine go_iload_n (pc := 8) rfl dX3_blame_8 ?_
    refine go_bipush (pc := 9) (v := 8) (by decide) dX3_blame_9 ?_
    refine go_iload_n (pc := 11) rfl dX3_blame_11 ?_
    refine gf_imul (pc := 12) (ti_c (v := 8) (a := 8) (by decide)) (ti_rfl a3) (by omega) (by omega) dX3_blame_12 (fun v16 e17 => ?_)
    refine gf_iadd (pc := 13) (ti_rfl a2) e17 (by omega) (by omega) dX3_blame_13 (fun v18 e19 => ?_)
    refine gi_put (pc := 14) (lo := -2147483648) (hi := 2147483647) hv e19 (fP_X3_22 _) rfl (Nat.le_of_ble_eq_true rfl) rfl rfl (ti_ge e19) (ti_le2 e19) rfl rfl (by decide) (by decide) (by decide) (by decide) dX3_blame_14 (fun h20 hv20 hv20e => ?_)
    have pr20 : PR h → PR h20 := fun z => by rw [hv20e]; exact PR.put hv (pr z) (by omega)
    have g21 : (0 : Int) ≤ (h20.2.1 34 1).toInt := (hv20.2.1 34 1).1
    have g22 : (h20.2.1 34 1).toInt ≤ 500 := (hv20.2.1 34 1).2
    have g23 : (0 : Int) ≤ (h20.2.1 34 2).toInt := (hv20.2.1 34 2).1
    have g24 : (h20.2.1 34 2).toInt ≤ 500 := (hv20.2.1 34 2).2
    have g25 : (-2147483648 : Int) ≤ (h20.2.1 34 3).toInt := (hv20.2.1 34 3).1
    have g26 : (h20.2.1 34 3).toInt ≤ 2147483647 := (hv20.2.1 34 3).2
    have g27 : (0 : Int) ≤ (h20.2.1 34 7).toInt := (hv20.2.1 34 7).1
    have g28 : (h20.2.1 34 7).toInt ≤ 7 := (hv20.2.1 34 7).2
    have g29 : (h20.2.1 34 2).toInt = u34_2.toInt := by rw [← (show u34_2 = h20.2.1 34 2 from (show u34_2 = h20.2.1 34 2 from by rw [hv20e]; exact (g_iI rfl u34_2w.symm).symm))] <;> exact (ti_rfl u34_2)
    have g30 : (h20.2.1 34 1).toInt = u34_1.toInt := by rw [← (show u34_1 = h20.2.1 34 1 from (show u34_1 = h20.2.1 34 1 from by rw [hv20e]; exact (g_iI rfl u34_1w.symm).symm))] <;> exact (ti_rfl u34_1)
    have g31 : (h20.2.1 34 7).toInt = u34_7.toInt := by rw [← (show u34_7 = h20.2.1 34 7 from (show u34_7 = h20.2.1 34 7 from by rw [hv20e]; exact (g_iI rfl u34_7w.symm).symm))] <;> exact (ti_rfl u34_7)
    have g32 : (h20.2.1 34 3).toInt = (a2.toInt + (8 * a3.toInt)) := by rw [← (show v18 = h20.2.1 34 3 from (show v18 = h20.2.1 34 3 from by rw [hv20e]; exact g_iS.symm))] <;> exact e19
    exact gi_vret (pc := 17) ⟨rfl, hv20, (by omega), (by omega), (by omega), (by omega), pr20⟩ hv20 dX3_blame_17
set_option maxHeartbeats 4000000 in
set_option maxRecDepth 100000 in
theorem s_X3_look (l : Launch) (d : Nat) {P : PP} {h : HP} (hv : Iv P h)  : Mt l yX3_look cX3_look 1 (some .int) (d + 1) [.ref 34] h 0 0 (fun r h' => ∃ v : Int32, r = some (.int v) ∧ -1 ≤ v.toInt ∧ v.toInt ≤ 255 ∧ Iv P h' ∧ (0 ≤ v.toInt → (h'.2.1 34 2).toInt ≤ 499) ∧ ((h'.2.1 34 1).toInt = (h.2.1 34 1).toInt) ∧ ((h'.2.1 34 7).toInt = (h.2.1 34 7).toInt) ∧ (PR h → PR h')) := by
  refine Mt_iv hv (by decide) (Nat.le_of_ble_eq_true rfl) ?_
  show Go l RX3 cX3_look 1 (g_rm (d + 1) 0 0) "look" (some .int) 117 0 0 (fun _ _ => True) (fun r h' => ∃ v : Int32, r = some (.int v) ∧ -1 ≤ v.toInt ∧ v.toInt ≤ 255 ∧ Iv P h' ∧ (0 ≤ v.toInt → (h'.2.1 34 2).toInt ≤ 499) ∧ ((h'.2.1 34 1).toInt = (h.2.1 34 1).toInt) ∧ ((h'.2.1 34 7).toInt = (h.2.1 34 7).toInt) ∧ (PR h → PR h')) 0 0 [(0, .ref 34)] [] h
  have pr : PR h → PR h := id
  have key : ∀ n : Nat, (∀  (hx : HP), Iv P hx → ((hx.2.1 34 2).toInt ≤ 499) → (PR h → PR hx) → (hx.2.1 34 1).toInt = (h.2.1 34 1).toInt → (hx.2.1 34 7).toInt = (h.2.1 34 7).toInt → (0 : Int) ≤ (hx.2.1 34 1).toInt → (hx.2.1 34 1).toInt ≤ 500 → (0 : Int) ≤ (hx.2.1 34 2).toInt → (hx.2.1 34 2).toInt ≤ 500 → (0 : Int) ≤ (hx.2.1 34 7).toInt → (hx.2.1 34 7).toInt ≤ 7 → (3 * (500 - (hx.2.1 34 2).toInt) + 4 : Int) < n → Go l RX3 cX3_look 1 (g_rm (d + 1) 0 0) "look" (some .int) 117 0 0 (fun _ _ => True) (fun r h' => ∃ v : Int32, r = some (.int v) ∧ -1 ≤ v.toInt ∧ v.toInt ≤ 255 ∧ Iv P h' ∧ (0 ≤ v.toInt → (h'.2.1 34 2).toInt ≤ 499) ∧ ((h'.2.1 34 1).toInt = (h.2.1 34 1).toInt) ∧ ((h'.2.1 34 7).toInt = (h.2.1 34 7).toInt) ∧ (PR h → PR h')) 0 39 [(0, .ref 34)] [] hx) ∧ (∀  (hx : HP), Iv P hx → (PR h → PR hx) → (hx.2.1 34 1).toInt = (h.2.1 34 1).toInt → (hx.2.1 34 7).toInt = (h.2.1 34 7).toInt → (0 : Int) ≤ (hx.2.1 34 1).toInt → (hx.2.1 34 1).toInt ≤ 500 → (0 : Int) ≤ (hx.2.1 34 2).toInt → (hx.2.1 34 2).toInt ≤ 500 → (0 : Int) ≤ (hx.2.1 34 7).toInt → (hx.2.1 34 7).toInt ≤ 7 → (2 : Int) < n → Go l RX3 cX3_look 1 (g_rm (d + 1) 0 0) "look" (some .int) 117 0 0 (fun _ _ => True) (fun r h' => ∃ v : Int32, r = some (.int v) ∧ -1 ≤ v.toInt ∧ v.toInt ≤ 255 ∧ Iv P h' ∧ (0 ≤ v.toInt → (h'.2.1 34 2).toInt ≤ 499) ∧ ((h'.2.1 34 1).toInt = (h.2.1 34 1).toInt) ∧ ((h'.2.1 34 7).toInt = (h.2.1 34 7).toInt) ∧ (PR h → PR h')) 0 52 [(0, .ref 34)] [] hx) ∧ (∀ (s0 : Int32) (hx : HP), Iv P hx → -1 ≤ s0.toInt → s0.toInt ≤ 255 → (0 ≤ s0.toInt → (hx.2.1 34 2).toInt ≤ 499) → (PR h → PR hx) → (hx.2.1 34 1).toInt = (h.2.1 34 1).toInt → (hx.2.1 34 7).toInt = (h.2.1 34 7).toInt → (0 : Int) ≤ (hx.2.1 34 1).toInt → (hx.2.1 34 1).toInt ≤ 500 → (0 : Int) ≤ (hx.2.1 34 2).toInt → (hx.2.1 34 2).toInt ≤ 500 → (0 : Int) ≤ (hx.2.1 34 7).toInt → (hx.2.1 34 7).toInt ≤ 7 → (1 : Int) < n → Go l RX3 cX3_look 1 (g_rm (d + 1) 0 0) "look" (some .int) 117 0 0 (fun _ _ => True) (fun r h' => ∃ v : Int32, r = some (.int v) ∧ -1 ≤ v.toInt ∧ v.toInt ≤ 255 ∧ Iv P h' ∧ (0 ≤ v.toInt → (h'.2.1 34 2).toInt ≤ 499) ∧ ((h'.2.1 34 1).toInt = (h.2.1 34 1).toInt) ∧ ((h'.2.1 34 7).toInt = (h.2.1 34 7).toInt) ∧ (PR h → PR h')) 0 80 [] [.int s0] hx) := by
    intro n
    induction n with
    | zero => exact ⟨(by intros; omega), (by intros; omega), (by intros; omega)⟩
    | succ n ih =>
      refine ⟨?_, ?_, ?_⟩
      ·
        intro hx hvx x0 prx t0 t1 y0l y0u y1l y1u y2l y2u hm
        obtain ⟨u34_1, u34_1w⟩ : ∃ v : Int32, v = hx.2.1 34 1 := ⟨_, rfl⟩
        have u34_1e : (hx.2.1 34 1).toInt = u34_1.toInt := by rw [u34_1w]
        have u34_1l : 0 ≤ u34_1.toInt := by rw [u34_1w]; exact (hvx.2.1 34 1).1
        have u34_1u : u34_1.toInt ≤ 500 := by rw [u34_1w]; exact (hvx.2.1 34 1).2
        obtain ⟨u34_7, u34_7w⟩ : ∃ v : Int32, v = hx.2.1 34 7 := ⟨_, rfl⟩
        have u34_7e : (hx.2.1 34 7).toInt = u34_7.toInt := by rw [u34_7w]
        have u34_7l : 0 ≤ u34_7.toInt := by rw [u34_7w]; exact (hvx.2.1 34 7).1
        have u34_7u : u34_7.toInt ≤ 7 := by rw [u34_7w]; exact (hvx.2.1 34 7).2
        refine go_aload_n (pc := 39) rfl dX3_look_39 ?_
        refine go_dup (pc := 40) rfl dX3_look_40 ?_
        refine gi_get (pc := 41) (lo := 0) (hi := 500) hvx fL_X3_19 rfl (Nat.le_of_ble_eq_true rfl) rfl rfl dX3_look_41 (fun v1 v1l v1u v1w => ?_)
        have g2 : (hx.2.1 34 2).toInt = v1.toInt := by rw [v1w]
        refine go_iconst (pc := 44) (v := 1) (by decide) dX3_look_44 ?_
        refine gf_iadd (pc := 45) (ti_rfl v1) (ti_c (v := 1) (a := 1) (by decide)) (by omega) (by omega) dX3_look_45 (fun v3 e4 => ?_)
        refine gi_put (pc := 46) (lo := 0) (hi := 500) hvx e4 (fP_X3_19 _) rfl (Nat.le_of_ble_eq_true rfl) rfl rfl (by omega) (by omega) rfl rfl (by decide) (by decide) (by decide) (by decide) dX3_look_46 (fun h5 hv5 hv5e => ?_)
        have pr5 : PR h → PR h5 := fun z => by rw [hv5e]; exact PR.put hvx (prx z) (by omega)
        refine go_goto (pc := 49) (tgt := 0) (by decide) dX3_look_49 ?_
        refine go_aload_n (pc := 0) rfl dX3_look_0 ?_
        refine gi_get (pc := 1) (lo := 0) (hi := 500) hv5 fL_X3_19 rfl (Nat.le_of_ble_eq_true rfl) rfl rfl dX3_look_1 (fun v6 v6l v6u v6w => ?_)
        have v6r : v3 = h5.2.1 34 2 := (show v3 = h5.2.1 34 2 from by rw [hv5e]; exact g_iS.symm)
        have v6q : TI v6 ((v1.toInt + 1)) := by rw [v6w.trans v6r.symm]; exact e4
        refine go_aload_n (pc := 4) rfl dX3_look_4 ?_
        refine gi_get (pc := 5) (lo := 0) (hi := 500) hv5 fL_X3_15 rfl (Nat.le_of_ble_eq_true rfl) rfl rfl dX3_look_5 (fun v7 v7l v7u v7w => ?_)
        have v7r : u34_1 = h5.2.1 34 1 := (show u34_1 = h5.2.1 34 1 from by rw [hv5e]; exact (g_iI rfl u34_1w.symm).symm)
        have v7q : TI v7 u34_1.toInt := by rw [v7w.trans v7r.symm]; exact (ti_rfl u34_1)
        refine gf_icmp_ge (pc := 8) (tgt := 52) v6q v7q (by decide) dX3_look_8 (fun q8 => ?_) (fun q8 => ?_)
        ·
          have g9 : (0 : Int) ≤ (h5.2.1 34 1).toInt := (hv5.2.1 34 1).1
          have g10 : (h5.2.1 34 1).toInt ≤ 500 := (hv5.2.1 34 1).2
          have g11 : (0 : Int) ≤ (h5.2.1 34 2).toInt := (hv5.2.1 34 2).1
          have g12 : (h5.2.1 34 2).toInt ≤ 500 := (hv5.2.1 34 2).2
          have g13 : (0 : Int) ≤ (h5.2.1 34 7).toInt := (hv5.2.1 34 7).1
          have g14 : (h5.2.1 34 7).toInt ≤ 7 := (hv5.2.1 34 7).2
          have g15 : (h5.2.1 34 1).toInt = u34_1.toInt := by rw [← (show u34_1 = h5.2.1 34 1 from (show u34_1 = h5.2.1 34 1 from by rw [hv5e]; exact (g_iI rfl u34_1w.symm).symm))] <;> exact (ti_rfl u34_1)
          have g16 : (h5.2.1 34 7).toInt = u34_7.toInt := by rw [← (show u34_7 = h5.2.1 34 7 from (show u34_7 = h5.2.1 34 7 from by rw [hv5e]; exact (g_iI rfl u34_7w.symm).symm))] <;> exact (ti_rfl u34_7)
          have g17 : (h5.2.1 34 2).toInt = (v1.toInt + 1) := by rw [← (show v3 = h5.2.1 34 2 from (show v3 = h5.2.1 34 2 from by rw [hv5e]; exact g_iS.symm))] <;> exact e4
          exact go_lv rfl (ih.2.1  h5 hv5 pr5 (by omega) (by omega) (by omega) (by omega) (by omega) (by omega) (by omega) (by omega) (by omega))
        ·
          refine go_aload_n (pc := 11) rfl dX3_look_11 ?_
          have g18 : (0 : Int) ≤ (h5.2.1 34 1).toInt := (hv5.2.1 34 1).1
          have g19 : (h5.2.1 34 1).toInt ≤ 500 := (hv5.2.1 34 1).2
          have g20 : (0 : Int) ≤ (h5.2.1 34 2).toInt := (hv5.2.1 34 2).1
          have g21 : (h5.2.1 34 2).toInt ≤ 500 := (hv5.2.1 34 2).2
          have g22 : (0 : Int) ≤ (h5.2.1 34 7).toInt := (hv5.2.1 34 7).1
          have g23 : (h5.2.1 34 7).toInt ≤ 7 := (hv5.2.1 34 7).2
          have g24 : (h5.2.1 34 1).toInt = u34_1.toInt := by rw [← (show u34_1 = h5.2.1 34 1 from (show u34_1 = h5.2.1 34 1 from by rw [hv5e]; exact (g_iI rfl u34_1w.symm).symm))] <;> exact (ti_rfl u34_1)
          have g25 : (h5.2.1 34 7).toInt = u34_7.toInt := by rw [← (show u34_7 = h5.2.1 34 7 from (show u34_7 = h5.2.1 34 7 from by rw [hv5e]; exact (g_iI rfl u34_7w.symm).symm))] <;> exact (ti_rfl u34_7)
          have g26 : (h5.2.1 34 2).toInt = (v1.toInt + 1) := by rw [← (show v3 = h5.2.1 34 2 from (show v3 = h5.2.1 34 2 from by rw [hv5e]; exact g_iS.symm))] <;> exact e4
          refine gi_getF (pc := 12) (q := 1) hv5 fL_X3_9 rfl (Nat.le_of_ble_eq_true rfl) rfl (hv5.tx (by omega)) dX3_look_12 ?_
          refine go_aload_n (pc := 15) rfl dX3_look_15 ?_
          refine gi_get (pc := 16) (lo := 0) (hi := 500) hv5 fL_X3_19 rfl (Nat.le_of_ble_eq_true rfl) rfl rfl dX3_look_16 (fun v27 v27l v27u v27w => ?_)
          have v27r : v3 = h5.2.1 34 2 := (show v3 = h5.2.1 34 2 from by rw [hv5e]; exact g_iS.symm)
          have v27q : TI v27 ((v1.toInt + 1)) := by rw [v27w.trans v27r.symm]; exact e4
          refine gi_bald (pc := 19) (lo := -128) (hi := 127) (len := 500) hv5 v27q rfl (by omega) (by omega) (fun _ => rfl) dX3_look_19 (fun v28 v28l v28u v28w => ?_)
          refine go_bipush (pc := 20) (v := 32) (by decide) dX3_look_20 ?_
          refine gf_icmp_eq (pc := 22) (tgt := 39) (ti_rfl v28) (ti_c (v := 32) (a := 32) (by decide)) (by decide) dX3_look_22 (fun q29 => ?_) (fun q29 => ?_)
          ·
            have g30 : (0 : Int) ≤ (h5.2.1 34 1).toInt := (hv5.2.1 34 1).1
            have g31 : (h5.2.1 34 1).toInt ≤ 500 := (hv5.2.1 34 1).2
            have g32 : (0 : Int) ≤ (h5.2.1 34 2).toInt := (hv5.2.1 34 2).1
            have g33 : (h5.2.1 34 2).toInt ≤ 500 := (hv5.2.1 34 2).2
            have g34 : (0 : Int) ≤ (h5.2.1 34 7).toInt := (hv5.2.1 34 7).1
            have g35 : (h5.2.1 34 7).toInt ≤ 7 := (hv5.2.1 34 7).2
            have g36 : (h5.2.1 34 1).toInt = u34_1.toInt := by rw [← (show u34_1 = h5.2.1 34 1 from (show u34_1 = h5.2.1 34 1 from by rw [hv5e]; exact (g_iI rfl u34_1w.symm).symm))] <;> exact (ti_rfl u34_1)
            have g37 : (h5.2.1 34 7).toInt = u34_7.toInt := by rw [← (show u34_7 = h5.2.1 34 7 from (show u34_7 = h5.2.1 34 7 from by rw [hv5e]; exact (g_iI rfl u34_7w.symm).symm))] <;> exact (ti_rfl u34_7)
            have g38 : (h5.2.1 34 2).toInt = (v1.toInt + 1) := by rw [← (show v3 = h5.2.1 34 2 from (show v3 = h5.2.1 34 2 from by rw [hv5e]; exact g_iS.symm))] <;> exact e4
            exact go_lv rfl (ih.1  h5 hv5 (by omega) pr5 (by omega) (by omega) (by omega) (by omega) (by omega) (by omega) (by omega) (by omega) (by omega))
          ·
            refine go_aload_n (pc := 25) rfl dX3_look_25 ?_
            have g39 : (0 : Int) ≤ (h5.2.1 34 1).toInt := (hv5.2.1 34 1).1
            have g40 : (h5.2.1 34 1).toInt ≤ 500 := (hv5.2.1 34 1).2
            have g41 : (0 : Int) ≤ (h5.2.1 34 2).toInt := (hv5.2.1 34 2).1
            have g42 : (h5.2.1 34 2).toInt ≤ 500 := (hv5.2.1 34 2).2
            have g43 : (0 : Int) ≤ (h5.2.1 34 7).toInt := (hv5.2.1 34 7).1
            have g44 : (h5.2.1 34 7).toInt ≤ 7 := (hv5.2.1 34 7).2
            have g45 : (h5.2.1 34 1).toInt = u34_1.toInt := by rw [← (show u34_1 = h5.2.1 34 1 from (show u34_1 = h5.2.1 34 1 from by rw [hv5e]; exact (g_iI rfl u34_1w.symm).symm))] <;> exact (ti_rfl u34_1)
            have g46 : (h5.2.1 34 7).toInt = u34_7.toInt := by rw [← (show u34_7 = h5.2.1 34 7 from (show u34_7 = h5.2.1 34 7 from by rw [hv5e]; exact (g_iI rfl u34_7w.symm).symm))] <;> exact (ti_rfl u34_7)
            have g47 : (h5.2.1 34 2).toInt = (v1.toInt + 1) := by rw [← (show v3 = h5.2.1 34 2 from (show v3 = h5.2.1 34 2 from by rw [hv5e]; exact g_iS.symm))] <;> exact e4
            refine gi_getF (pc := 26) (q := 1) hv5 fL_X3_9 rfl (Nat.le_of_ble_eq_true rfl) rfl (hv5.tx (by omega)) dX3_look_26 ?_
            refine go_aload_n (pc := 29) rfl dX3_look_29 ?_
            refine gi_get (pc := 30) (lo := 0) (hi := 500) hv5 fL_X3_19 rfl (Nat.le_of_ble_eq_true rfl) rfl rfl dX3_look_30 (fun v48 v48l v48u v48w => ?_)
            have v48r : v3 = h5.2.1 34 2 := (show v3 = h5.2.1 34 2 from by rw [hv5e]; exact g_iS.symm)
            have v48q : TI v48 ((v1.toInt + 1)) := by rw [v48w.trans v48r.symm]; exact e4
            refine gi_bald (pc := 33) (lo := -128) (hi := 127) (len := 500) hv5 v48q rfl (by omega) (by omega) (fun _ => rfl) dX3_look_33 (fun v49 v49l v49u v49w => ?_)
            refine go_bipush (pc := 34) (v := 10) (by decide) dX3_look_34 ?_
            refine gf_icmp_ne (pc := 36) (tgt := 52) (ti_rfl v49) (ti_c (v := 10) (a := 10) (by decide)) (by decide) dX3_look_36 (fun q50 => ?_) (fun q50 => ?_)
            ·
              have g51 : (0 : Int) ≤ (h5.2.1 34 1).toInt := (hv5.2.1 34 1).1
              have g52 : (h5.2.1 34 1).toInt ≤ 500 := (hv5.2.1 34 1).2
              have g53 : (0 : Int) ≤ (h5.2.1 34 2).toInt := (hv5.2.1 34 2).1
              have g54 : (h5.2.1 34 2).toInt ≤ 500 := (hv5.2.1 34 2).2
              have g55 : (0 : Int) ≤ (h5.2.1 34 7).toInt := (hv5.2.1 34 7).1
              have g56 : (h5.2.1 34 7).toInt ≤ 7 := (hv5.2.1 34 7).2
              have g57 : (h5.2.1 34 1).toInt = u34_1.toInt := by rw [← (show u34_1 = h5.2.1 34 1 from (show u34_1 = h5.2.1 34 1 from by rw [hv5e]; exact (g_iI rfl u34_1w.symm).symm))] <;> exact (ti_rfl u34_1)
              have g58 : (h5.2.1 34 7).toInt = u34_7.toInt := by rw [← (show u34_7 = h5.2.1 34 7 from (show u34_7 = h5.2.1 34 7 from by rw [hv5e]; exact (g_iI rfl u34_7w.symm).symm))] <;> exact (ti_rfl u34_7)
              have g59 : (h5.2.1 34 2).toInt = (v1.toInt + 1) := by rw [← (show v3 = h5.2.1 34 2 from (show v3 = h5.2.1 34 2 from by rw [hv5e]; exact g_iS.symm))] <;> exact e4
              exact go_lv rfl (ih.2.1  h5 hv5 pr5 (by omega) (by omega) (by omega) (by omega) (by omega) (by omega) (by omega) (by omega) (by omega))
            ·
              have g60 : (0 : Int) ≤ (h5.2.1 34 1).toInt := (hv5.2.1 34 1).1
              have g61 : (h5.2.1 34 1).toInt ≤ 500 := (hv5.2.1 34 1).2
              have g62 : (0 : Int) ≤ (h5.2.1 34 2).toInt := (hv5.2.1 34 2).1
              have g63 : (h5.2.1 34 2).toInt ≤ 500 := (hv5.2.1 34 2).2
              have g64 : (0 : Int) ≤ (h5.2.1 34 7).toInt := (hv5.2.1 34 7).1
              have g65 : (h5.2.1 34 7).toInt ≤ 7 := (hv5.2.1 34 7).2
              have g66 : (h5.2.1 34 1).toInt = u34_1.toInt := by rw [← (show u34_1 = h5.2.1 34 1 from (show u34_1 = h5.2.1 34 1 from by rw [hv5e]; exact (g_iI rfl u34_1w.symm).symm))] <;> exact (ti_rfl u34_1)
              have g67 : (h5.2.1 34 7).toInt = u34_7.toInt := by rw [← (show u34_7 = h5.2.1 34 7 from (show u34_7 = h5.2.1 34 7 from by rw [hv5e]; exact (g_iI rfl u34_7w.symm).symm))] <;> exact (ti_rfl u34_7)
              have g68 : (h5.2.1 34 2).toInt = (v1.toInt + 1) := by rw [← (show v3 = h5.2.1 34 2 from (show v3 = h5.2.1 34 2 from by rw [hv5e]; exact g_iS.symm))] <;> exact e4
              exact go_lv rfl (ih.1  h5 hv5 (by omega) pr5 (by omega) (by omega) (by omega) (by omega) (by omega) (by omega) (by omega) (by omega) (by omega))
      ·
        intro hx hvx prx t0 t1 y0l y0u y1l y1u y2l y2u hm
        obtain ⟨u34_1, u34_1w⟩ : ∃ v : Int32, v = hx.2.1 34 1 := ⟨_, rfl⟩
        have u34_1e : (hx.2.1 34 1).toInt = u34_1.toInt := by rw [u34_1w]
        have u34_1l : 0 ≤ u34_1.toInt := by rw [u34_1w]; exact (hvx.2.1 34 1).1
        have u34_1u : u34_1.toInt ≤ 500 := by rw [u34_1w]; exact (hvx.2.1 34 1).2
        obtain ⟨u34_7, u34_7w⟩ : ∃ v : Int32, v = hx.2.1 34 7 := ⟨_, rfl⟩
        have u34_7e : (hx.2.1 34 7).toInt = u34_7.toInt := by rw [u34_7w]
        have u34_7l : 0 ≤ u34_7.toInt := by rw [u34_7w]; exact (hvx.2.1 34 7).1
        have u34_7u : u34_7.toInt ≤ 7 := by rw [u34_7w]; exact (hvx.2.1 34 7).2
        refine go_aload_n (pc := 52) rfl dX3_look_52 ?_
        refine gi_get (pc := 53) (lo := 0) (hi := 500) hvx fL_X3_19 rfl (Nat.le_of_ble_eq_true rfl) rfl rfl dX3_look_53 (fun v69 v69l v69u v69w => ?_)
        have g70 : (hx.2.1 34 2).toInt = v69.toInt := by rw [v69w]
        refine go_aload_n (pc := 56) rfl dX3_look_56 ?_
        refine gi_get (pc := 57) (lo := 0) (hi := 500) hvx fL_X3_15 rfl (Nat.le_of_ble_eq_true rfl) rfl rfl dX3_look_57 (fun v71 v71l v71u v71w => ?_)
        have v71r : u34_1 = hx.2.1 34 1 := u34_1w
        have v71q : TI v71 u34_1.toInt := by rw [v71w.trans v71r.symm]; exact (ti_rfl u34_1)
        refine gf_icmp_ge (pc := 60) (tgt := 79) (ti_rfl v69) v71q (by decide) dX3_look_60 (fun q72 => ?_) (fun q72 => ?_)
        ·
          refine go_iconst (pc := 79) (v := (-1)) (by decide) dX3_look_79 ?_
          have z73 : ((-1) : Int32).toInt = (-1) := (ti_c (v := (-1)) (a := (-1)) (by decide))
          have g74 : (0 : Int) ≤ (hx.2.1 34 1).toInt := (hvx.2.1 34 1).1
          have g75 : (hx.2.1 34 1).toInt ≤ 500 := (hvx.2.1 34 1).2
          have g76 : (0 : Int) ≤ (hx.2.1 34 2).toInt := (hvx.2.1 34 2).1
          have g77 : (hx.2.1 34 2).toInt ≤ 500 := (hvx.2.1 34 2).2
          have g78 : (0 : Int) ≤ (hx.2.1 34 7).toInt := (hvx.2.1 34 7).1
          have g79 : (hx.2.1 34 7).toInt ≤ 7 := (hvx.2.1 34 7).2
          have g80 : (hx.2.1 34 1).toInt = u34_1.toInt := by rw [← (show u34_1 = hx.2.1 34 1 from u34_1w)] <;> exact (ti_rfl u34_1)
          have g81 : (hx.2.1 34 7).toInt = u34_7.toInt := by rw [← (show u34_7 = hx.2.1 34 7 from u34_7w)] <;> exact (ti_rfl u34_7)
          have g82 : (hx.2.1 34 2).toInt = v69.toInt := by rw [← (show v69 = hx.2.1 34 2 from v69w)] <;> exact (ti_rfl v69)
          exact go_lv rfl (ih.2.2 (-1) hx hvx (by omega) (by omega) (by omega) prx (by omega) (by omega) (by omega) (by omega) (by omega) (by omega) (by omega) (by omega) (by omega))
        ·
          refine go_aload_n (pc := 63) rfl dX3_look_63 ?_
          have g83 : (0 : Int) ≤ (hx.2.1 34 1).toInt := (hvx.2.1 34 1).1
          have g84 : (hx.2.1 34 1).toInt ≤ 500 := (hvx.2.1 34 1).2
          have g85 : (0 : Int) ≤ (hx.2.1 34 2).toInt := (hvx.2.1 34 2).1
          have g86 : (hx.2.1 34 2).toInt ≤ 500 := (hvx.2.1 34 2).2
          have g87 : (0 : Int) ≤ (hx.2.1 34 7).toInt := (hvx.2.1 34 7).1
          have g88 : (hx.2.1 34 7).toInt ≤ 7 := (hvx.2.1 34 7).2
          have g89 : (hx.2.1 34 1).toInt = u34_1.toInt := by rw [← (show u34_1 = hx.2.1 34 1 from u34_1w)] <;> exact (ti_rfl u34_1)
          have g90 : (hx.2.1 34 7).toInt = u34_7.toInt := by rw [← (show u34_7 = hx.2.1 34 7 from u34_7w)] <;> exact (ti_rfl u34_7)
          have g91 : (hx.2.1 34 2).toInt = v69.toInt := by rw [← (show v69 = hx.2.1 34 2 from v69w)] <;> exact (ti_rfl v69)
          refine gi_getF (pc := 64) (q := 1) hvx fL_X3_9 rfl (Nat.le_of_ble_eq_true rfl) rfl (hvx.tx (by omega)) dX3_look_64 ?_
          refine go_aload_n (pc := 67) rfl dX3_look_67 ?_
          refine gi_get (pc := 68) (lo := 0) (hi := 500) hvx fL_X3_19 rfl (Nat.le_of_ble_eq_true rfl) rfl rfl dX3_look_68 (fun v92 v92l v92u v92w => ?_)
          have v92r : v69 = hx.2.1 34 2 := v69w
          have v92q : TI v92 v69.toInt := by rw [v92w.trans v92r.symm]; exact (ti_rfl v69)
          refine gi_bald (pc := 71) (lo := -128) (hi := 127) (len := 500) hvx v92q rfl (by omega) (by omega) (fun _ => rfl) dX3_look_71 (fun v93 v93l v93u v93w => ?_)
          refine go_sipush (pc := 72) (v := 255) (by decide) dX3_look_72 ?_
          refine gf_iand (pc := 75) (ti_c (v := 255) (a := 255) (by decide)) (by omega) dX3_look_75 (fun v94 v94l v94u => ?_)
          refine go_goto (pc := 76) (tgt := 80) (by decide) dX3_look_76 ?_
          have g95 : (0 : Int) ≤ (hx.2.1 34 1).toInt := (hvx.2.1 34 1).1
          have g96 : (hx.2.1 34 1).toInt ≤ 500 := (hvx.2.1 34 1).2
          have g97 : (0 : Int) ≤ (hx.2.1 34 2).toInt := (hvx.2.1 34 2).1
          have g98 : (hx.2.1 34 2).toInt ≤ 500 := (hvx.2.1 34 2).2
          have g99 : (0 : Int) ≤ (hx.2.1 34 7).toInt := (hvx.2.1 34 7).1
          have g100 : (hx.2.1 34 7).toInt ≤ 7 := (hvx.2.1 34 7).2
          have g101 : (hx.2.1 34 1).toInt = u34_1.toInt := by rw [← (show u34_1 = hx.2.1 34 1 from u34_1w)] <;> exact (ti_rfl u34_1)
          have g102 : (hx.2.1 34 7).toInt = u34_7.toInt := by rw [← (show u34_7 = hx.2.1 34 7 from u34_7w)] <;> exact (ti_rfl u34_7)
          have g103 : (hx.2.1 34 2).toInt = v69.toInt := by rw [← (show v69 = hx.2.1 34 2 from v69w)] <;> exact (ti_rfl v69)
          exact go_lv rfl (ih.2.2 v94 hx hvx (by omega) (by omega) (by omega) prx (by omega) (by omega) (by omega) (by omega) (by omega) (by omega) (by omega) (by omega) (by omega))
      ·
        intro s0 hx hvx s0l s0u x0 prx t0 t1 y0l y0u y1l y1u y2l y2u hm
        obtain ⟨u34_1, u34_1w⟩ : ∃ v : Int32, v = hx.2.1 34 1 := ⟨_, rfl⟩
        have u34_1e : (hx.2.1 34 1).toInt = u34_1.toInt := by rw [u34_1w]
        have u34_1l : 0 ≤ u34_1.toInt := by rw [u34_1w]; exact (hvx.2.1 34 1).1
        have u34_1u : u34_1.toInt ≤ 500 := by rw [u34_1w]; exact (hvx.2.1 34 1).2
        obtain ⟨u34_7, u34_7w⟩ : ∃ v : Int32, v = hx.2.1 34 7 := ⟨_, rfl⟩
        have u34_7e : (hx.2.1 34 7).toInt = u34_7.toInt := by rw [u34_7w]
        have u34_7l : 0 ≤ u34_7.toInt := by rw [u34_7w]; exact (hvx.2.1 34 7).1
        have u34_7u : u34_7.toInt ≤ 7 := by rw [u34_7w]; exact (hvx.2.1 34 7).2
        have g104 : (0 : Int) ≤ (hx.2.1 34 1).toInt := (hvx.2.1 34 1).1
        have g105 : (hx.2.1 34 1).toInt ≤ 500 := (hvx.2.1 34 1).2
        have g106 : (0 : Int) ≤ (hx.2.1 34 2).toInt := (hvx.2.1 34 2).1
        have g107 : (hx.2.1 34 2).toInt ≤ 500 := (hvx.2.1 34 2).2
        have g108 : (0 : Int) ≤ (hx.2.1 34 7).toInt := (hvx.2.1 34 7).1
        have g109 : (hx.2.1 34 7).toInt ≤ 7 := (hvx.2.1 34 7).2
        have g110 : (hx.2.1 34 1).toInt = u34_1.toInt := by rw [← (show u34_1 = hx.2.1 34 1 from u34_1w)] <;> exact (ti_rfl u34_1)
        have g111 : (hx.2.1 34 7).toInt = u34_7.toInt := by rw [← (show u34_7 = hx.2.1 34 7 from u34_7w)] <;> exact (ti_rfl u34_7)
        exact gi_iret (pc := 80) (ti_rfl s0) ⟨_, rfl, (by rw [show (s0 : Int32).toInt = s0.toInt from (ti_rfl s0)]; omega), (by rw [show (s0 : Int32).toInt = s0.toInt from (ti_rfl s0)]; omega), hvx, (by rw [show (s0 : Int32).toInt = s0.toInt from (ti_rfl s0)]; omega), (by omega), (by omega), prx⟩ hvx dX3_look_80
  obtain ⟨u34_1, u34_1w⟩ : ∃ v : Int32, v = h.2.1 34 1 := ⟨_, rfl⟩
  have u34_1e : (h.2.1 34 1).toInt = u34_1.toInt := by rw [u34_1w]
  have u34_1l : 0 ≤ u34_1.toInt := by rw [u34_1w]; exact (hv.2.1 34 1).1
  have u34_1u : u34_1.toInt ≤ 500 := by rw [u34_1w]; exact (hv.2.1 34 1).2
  obtain ⟨u34_7, u34_7w⟩ : ∃ v : Int32, v = h.2.1 34 7 := ⟨_, rfl⟩
  have u34_7e : (h.2.1 34 7).toInt = u34_7.toInt := by rw [u34_7w]
  have u34_7l : 0 ≤ u34_7.toInt := by rw [u34_7w]; exact (hv.2.1 34 7).1
  have u34_7u : u34_7.toInt ≤ 7 := by rw [u34_7w]; exact (hv.2.1 34 7).2
  refine go_aload_n (pc := 0) rfl dX3_look_0 ?_
  refine gi_get (pc := 1) (lo := 0) (hi := 500) hv fL_X3_19 rfl (Nat.le_of_ble_eq_true rfl) rfl rfl dX3_look_1 (fun v112 v112l v112u v112w => ?_)
  have g113 : (h.2.1 34 2).toInt = v112.toInt := by rw [v112w]
  refine go_aload_n (pc := 4) rfl dX3_look_4 ?_
  refine gi_get (pc := 5) (lo := 0) (hi := 500) hv fL_X3_15 rfl (Nat.le_of_ble_eq_true rfl) rfl rfl dX3_look_5 (fun v114 v114l v114u v114w => ?_)
  have v114r : u34_1 = h.2.1 34 1 := u34_1w
  have v114q : TI v114 u34_1.toInt := by rw [v114w.trans v114r.symm]; exact (ti_rfl u34_1)
  refine gf_icmp_ge (pc := 8) (tgt := 52) (ti_rfl v112) v114q (by decide) dX3_look_8 (fun q115 => ?_) (fun q115 => ?_)
  ·
    have g116 : (0 : Int) ≤ (h.2.1 34 1).toInt := (hv.2.1 34 1).1
    have g117 : (h.2.1 34 1).toInt ≤ 500 := (hv.2.1 34 1).2
    have g118 : (0 : Int) ≤ (h.2.1 34 2).toInt := (hv.2.1 34 2).1
    have g119 : (h.2.1 34 2).toInt ≤ 500 := (hv.2.1 34 2).2
    have g120 : (0 : Int) ≤ (h.2.1 34 7).toInt := (hv.2.1 34 7).1
    have g121 : (h.2.1 34 7).toInt ≤ 7 := (hv.2.1 34 7).2
    have g122 : (h.2.1 34 1).toInt = u34_1.toInt := by rw [← (show u34_1 = h.2.1 34 1 from u34_1w)] <;> exact (ti_rfl u34_1)
    have g123 : (h.2.1 34 7).toInt = u34_7.toInt := by rw [← (show u34_7 = h.2.1 34 7 from u34_7w)] <;> exact (ti_rfl u34_7)
    have g124 : (h.2.1 34 2).toInt = v112.toInt := by rw [← (show v112 = h.2.1 34 2 from v112w)] <;> exact (ti_rfl v112)
    exact go_lv rfl ((key 1521).2.1  h hv pr (by omega) (by omega) (by omega) (by omega) (by omega) (by omega) (by omega) (by omega) (by omega))
  ·
    refine go_aload_n (pc := 11) rfl dX3_look_11 ?_
    have g125 : (0 : Int) ≤ (h.2.1 34 1).toInt := (hv.2.1 34 1).1
    have g126 : (h.2.1 34 1).toInt ≤ 500 := (hv.2.1 34 1).2
    have g127 : (0 : Int) ≤ (h.2.1 34 2).toInt := (hv.2.1 34 2).1
    have g128 : (h.2.1 34 2).toInt ≤ 500 := (hv.2.1 34 2).2
    have g129 : (0 : Int) ≤ (h.2.1 34 7).toInt := (hv.2.1 34 7).1
    have g130 : (h.2.1 34 7).toInt ≤ 7 := (hv.2.1 34 7).2
    have g131 : (h.2.1 34 1).toInt = u34_1.toInt := by rw [← (show u34_1 = h.2.1 34 1 from u34_1w)] <;> exact (ti_rfl u34_1)
    have g132 : (h.2.1 34 7).toInt = u34_7.toInt := by rw [← (show u34_7 = h.2.1 34 7 from u34_7w)] <;> exact (ti_rfl u34_7)
    have g133 : (h.2.1 34 2).toInt = v112.toInt := by rw [← (show v112 = h.2.1 34 2 from v112w)] <;> exact (ti_rfl v112)
    refine gi_getF (pc := 12) (q := 1) hv fL_X3_9 rfl (Nat.le_of_ble_eq_true rfl) rfl (hv.tx (by omega)) dX3_look_12 ?_
    refine go_aload_n (pc := 15) rfl dX3_look_15 ?_
    refine gi_get (pc := 16) (lo := 0) (hi := 500) hv fL_X3_19 rfl (Nat.le_of_ble_eq_true rfl) rfl rfl dX3_look_16 (fun v134 v134l v134u v134w => ?_)
    have v134r : v112 = h.2.1 34 2 := v112w
    have v134q : TI v134 v112.toInt := by rw [v134w.trans v134r.symm]; exact (ti_rfl v112)
    refine gi_bald (pc := 19) (lo := -128) (hi := 127) (len := 500) hv v134q rfl (by omega) (by omega) (fun _ => rfl) dX3_look_19 (fun v135 v135l v135u v135w => ?_)
    refine go_bipush (pc := 20) (v := 32) (by decide) dX3_look_20 ?_
    refine gf_icmp_eq (pc := 22) (tgt := 39) (ti_rfl v135) (ti_c (v := 32) (a := 32) (by decide)) (by decide) dX3_look_22 (fun q136 => ?_) (fun q136 => ?_)
    ·
      have g137 : (0 : Int) ≤ (h.2.1 34 1).toInt := (hv.2.1 34 1).1
      have g138 : (h.2.1 34 1).toInt ≤ 500 := (hv.2.1 34 1).2
      have g139 : (0 : Int) ≤ (h.2.1 34 2).toInt := (hv.2.1 34 2).1
      have g140 : (h.2.1 34 2).toInt ≤ 500 := (hv.2.1 34 2).2
      have g141 : (0 : Int) ≤ (h.2.1 34 7).toInt := (hv.2.1 34 7).1
      have g142 : (h.2.1 34 7).toInt ≤ 7 := (hv.2.1 34 7).2
      have g143 : (h.2.1 34 1).toInt = u34_1.toInt := by rw [← (show u34_1 = h.2.1 34 1 from u34_1w)] <;> exact (ti_rfl u34_1)
      have g144 : (h.2.1 34 7).toInt = u34_7.toInt := by rw [← (show u34_7 = h.2.1 34 7 from u34_7w)] <;> exact (ti_rfl u34_7)
      have g145 : (h.2.1 34 2).toInt = v112.toInt := by rw [← (show v112 = h.2.1 34 2 from v112w)] <;> exact (ti_rfl v112)
      exact go_lv rfl ((key 1521).1  h hv (by omega) pr (by omega) (by omega) (by omega) (by omega) (by omega) (by omega) (by omega) (by omega) (by omega))
    ·
      refine go_aload_n (pc := 25) rfl dX3_look_25 ?_
      have g146 : (0 : Int) ≤ (h.2.1 34 1).toInt := (hv.2.1 34 1).1
      have g147 : (h.2.1 34 1).toInt ≤ 500 := (hv.2.1 34 1).2
      have g148 : (0 : Int) ≤ (h.2.1 34 2).toInt := (hv.2.1 34 2).1
      have g149 : (h.2.1 34 2).toInt ≤ 500 := (hv.2.1 34 2).2
      have g150 : (0 : Int) ≤ (h.2.1 34 7).toInt := (hv.2.1 34 7).1
      have g151 : (h.2.1 34 7).toInt ≤ 7 := (hv.2.1 34 7).2
      have g152 : (h.2.1 34 1).toInt = u34_1.toInt := by rw [← (show u34_1 = h.2.1 34 1 from u34_1w)] <;> exact (ti_rfl u34_1)
      have g153 : (h.2.1 34 7).toInt = u34_7.toInt := by rw [← (show u34_7 = h.2.1 34 7 from u34_7w)] <;> exact (ti_rfl u34_7)
      have g154 : (h.2.1 34 2).toInt = v112.toInt := by rw [← (show v112 = h.2.1 34 2 from v112w)] <;> exact (ti_rfl v112)
      refine gi_getF (pc := 26) (q := 1) hv fL_X3_9 rfl (Nat.le_of_ble_eq_true rfl) rfl (hv.tx (by omega)) dX3_look_26 ?_
      refine go_aload_n (pc := 29) rfl dX3_look_29 ?_
      refine gi_get (pc := 30) (lo := 0) (hi := 500) hv fL_X3_19 rfl (Nat.le_of_ble_eq_true rfl) rfl rfl dX3_look_30 (fun v155 v155l v155u v155w => ?_)
      have v155r : v112 = h.2.1 34 2 := v112w
      have v155q : TI v155 v112.toInt := by rw [v155w.trans v155r.symm]; exact (ti_rfl v112)
      refine gi_bald (pc := 33) (lo := -128) (hi := 127) (len := 500) hv v155q rfl (by omega) (by omega) (fun _ => rfl) dX3_look_33 (fun v156 v156l v156u v156w => ?_)
      refine go_bipush (pc := 34) (v := 10) (by decide) dX3_look_34 ?_
      refine gf_icmp_ne (pc := 36) (tgt := 52) (ti_rfl v156) (ti_c (v := 10) (a := 10) (by decide)) (by decide) dX3_look_36 (fun q157 => ?_) (fun q157 => ?_)
      ·
        have g158 : (0 : Int) ≤ (h.2.1 34 1).toInt := (hv.2.1 34 1).1
        have g159 : (h.2.1 34 1).toInt ≤ 500 := (hv.2.1 34 1).2
        have g160 : (0 : Int) ≤ (h.2.1 34 2).toInt := (hv.2.1 34 2).1
        have g161 : (h.2.1 34 2).toInt ≤ 500 := (hv.2.1 34 2).2
        have g162 : (0 : Int) ≤ (h.2.1 34 7).toInt := (hv.2.1 34 7).1
        have g163 : (h.2.1 34 7).toInt ≤ 7 := (hv.2.1 34 7).2
        have g164 : (h.2.1 34 1).toInt = u34_1.toInt := by rw [← (show u34_1 = h.2.1 34 1 from u34_1w)] <;> exact (ti_rfl u34_1)
        have g165 : (h.2.1 34 7).toInt = u34_7.toInt := by rw [← (show u34_7 = h.2.1 34 7 from u34_7w)] <;> exact (ti_rfl u34_7)
        have g166 : (h.2.1 34 2).toInt = v112.toInt := by rw [← (show v112 = h.2.1 34 2 from v112w)] <;> exact (ti_rfl v112)
        exact go_lv rfl ((key 1521).2.1  h hv pr (by omega) (by omega) (by omega) (by omega) (by omega) (by omega) (by omega) (by omega) (by omega))
      ·
        have g167 : (0 : Int) ≤ (h.2.1 34 1).toInt := (hv.2.1 34 1).1
        have g168 : (h.2.1 34 1).toInt ≤ 500 := (hv.2.1 34 1).2
        have g169 : (0 : Int) ≤ (h.2.1 34 2).toInt := (hv.2.1 34 2).1
        have g170 : (h.2.1 34 2).toInt ≤ 500 := (hv.2.1 34 2).2
        have g171 : (0 : Int) ≤ (h.2.1 34 7).toInt := (hv.2.1 34 7).1
        have g172 : (h.2.1 34 7).toInt ≤ 7 := (hv.2.1 34 7).2
        have g173 : (h.2.1 34 1).toInt = u34_1.toInt := by rw [← (show u34_1 = h.2.1 34 1 from u34_1w)] <;> exact (ti_rfl u34_1)
        have g174 : (h.2.1 34 7).toInt = u34_7.toInt := by rw [← (show u34_7 = h.2.1 34 7 from u34_7w)] <;> exact (ti_rfl u34_7)
        have g175 : (h.2.1 34 2).toInt = v112.toInt := by rw [← (show v112 = h.2.1 34 2 from v112w)] <;> exact (ti_rfl v112)
        exact go_lv rfl ((key 1521).1  h hv (by omega) pr (by omega) (by omega) (by omega) (by omega) (by omega) (by omega) (by omega) (by omega) (by omega))
set_option maxHeartbeats 4000000 in
set_option maxRecDepth 100000 in
theorem s_X3_take (l : Launch) (d : Nat) {P : PP} {h : HP} (hv : Iv P h) (a2 : Int32) (a2l : 0 ≤ a2.toInt) (a2u : a2.toInt ≤ 255) : Mt l yX3_take cX3_take 2 none (d + 2) [.ref 34, .int a2] h 0 0 (fun r h' => r = none ∧ Iv P h' ∧ ((h'.2.1 34 1).toInt = (h.2.1 34 1).toInt) ∧ ((h'.2.1 34 7).toInt = (h.2.1 34 7).toInt) ∧ (PR h → PR h')) := by
  refine Mt_iv hv (by decide) (Nat.le_of_ble_eq_true rfl) ?_
  show Go l RX3 cX3_take 2 (g_rm (d + 2) 0 0) "take" none 117 0 0 (fun _ _ => True) (fun r h' => r = none ∧ Iv P h' ∧ ((h'.2.1 34 1).toInt = (h.2.1 34 1).toInt) ∧ ((h'.2.1 34 7).toInt = (h.2.1 34 7).toInt) ∧ (PR h → PR h')) 0 0 [(0, .ref 34), (1, .int a2)] [] h
  have pr : PR h → PR h := id
  have key : ∀ n : Nat, (∀  (hx : HP), Iv P hx → (PR h → PR hx) → (hx.2.1 34 1).toInt = (h.2.1 34 1).toInt → (hx.2.1 34 7).toInt = (h.2.1 34 7).toInt → (0 : Int) ≤ (hx.2.1 34 1).toInt → (hx.2.1 34 1).toInt ≤ 500 → (0 : Int) ≤ (hx.2.1 34 2).toInt → (hx.2.1 34 2).toInt ≤ 500 → (0 : Int) ≤ (hx.2.1 34 7).toInt → (hx.2.1 34 7).toInt ≤ 7 → (1 : Int) < n → Go l RX3 cX3_take 2 (g_rm (d + 2) 0 0) "take" none 117 0 0 (fun _ _ => True) (fun r h' => r = none ∧ Iv P h' ∧ ((h'.2.1 34 1).toInt = (h.2.1 34 1).toInt) ∧ ((h'.2.1 34 7).toInt = (h.2.1 34 7).toInt) ∧ (PR h → PR h')) 0 30 [] [] hx) := by
    intro n
    induction n with
    | zero => exact (by intros; omega)
    | succ n ih =>
      refine ?_
      ·
        intro hx hvx prx t0 t1 y0l y0u y1l y1u y2l y2u hm
        obtain ⟨u34_1, u34_1w⟩ : ∃ v : Int32, v = hx.2.1 34 1 := ⟨_, rfl⟩
        have u34_1e : (hx.2.1 34 1).toInt = u34_1.toInt := by rw [u34_1w]
        have u34_1l : 0 ≤ u34_1.toInt := by rw [u34_1w]; exact (hvx.2.1 34 1).1
        have u34_1u : u34_1.toInt ≤ 500 := by rw [u34_1w]; exact (hvx.2.1 34 1).2
        obtain ⟨u34_7, u34_7w⟩ : ∃ v : Int32, v = hx.2.1 34 7 := ⟨_, rfl⟩
        have u34_7e : (hx.2.1 34 7).toInt = u34_7.toInt := by rw [u34_7w]
        have u34_7l : 0 ≤ u34_7.toInt := by rw [u34_7w]; exact (hvx.2.1 34 7).1
        have u34_7u : u34_7.toInt ≤ 7 := by rw [u34_7w]; exact (hvx.2.1 34 7).2
        have g1 : (0 : Int) ≤ (hx.2.1 34 1).toInt := (hvx.2.1 34 1).1
        have g2 : (hx.2.1 34 1).toInt ≤ 500 := (hvx.2.1 34 1).2
        have g3 : (0 : Int) ≤ (hx.2.1 34 2).toInt := (hvx.2.1 34 2).1
        have g4 : (hx.2.1 34 2).toInt ≤ 500 := (hvx.2.1 34 2).2
        have g5 : (0 : Int) ≤ (hx.2.1 34 7).toInt := (hvx.2.1 34 7).1
        have g6 : (hx.2.1 34 7).toInt ≤ 7 := (hvx.2.1 34 7).2
        have g7 : (hx.2.1 34 1).toInt = u34_1.toInt := by rw [← (show u34_1 = hx.2.1 34 1 from u34_1w)] <;> exact (ti_rfl u34_1)
        have g8 : (hx.2.1 34 7).toInt = u34_7.toInt := by rw [← (show u34_7 = hx.2.1 34 7 from u34_7w)] <;> exact (ti_rfl u34_7)
        exact gi_vret (pc := 30) ⟨rfl, hvx, (by omega), (by omega), prx⟩ hvx dX3_take_30
  obtain ⟨u34_1, u34_1w⟩ : ∃ v : Int32, v = h.2.1 34 1 := ⟨_, rfl⟩
  have u34_1e : (h.2.1 34 1).toInt = u34_1.toInt := by rw [u34_1w]
  have u34_1l : 0 ≤ u34_1.toInt := by rw [u34_1w]; exact (hv.2.1 34 1).1
  have u34_1u : u34_1.toInt ≤ 500 := by rw [u34_1w]; exact (hv.2.1 34 1).2
  obtain ⟨u34_7, u34_7w⟩ : ∃ v : Int32, v = h.2.1 34 7 := ⟨_, rfl⟩
  have u34_7e : (h.2.1 34 7).toInt = u34_7.toInt := by rw [u34_7w]
  have u34_7l : 0 ≤ u34_7.toInt := by rw [u34_7w]; exact (hv.2.1 34 7).1
  have u34_7u : u34_7.toInt ≤ 7 := by rw [u34_7w]; exact (hv.2.1 34 7).2
  refine go_aload_n (pc := 0) rfl dX3_take_0 ?_
  have g9 : (0 : Int) ≤ (h.2.1 34 1).toInt := (hv.2.1 34 1).1
  have g10 : (h.2.1 34 1).toInt ≤ 500 := (hv.2.1 34 1).2
  have g11 : (0 : Int) ≤ (h.2.1 34 2).toInt := (hv.2.1 34 2).1
  have g12 : (h.2.1 34 2).toInt ≤ 500 := (hv.2.1 34 2).2
  have g13 : (0 : Int) ≤ (h.2.1 34 7).toInt := (hv.2.1 34 7).1
  have g14 : (h.2.1 34 7).toInt ≤ 7 := (hv.2.1 34 7).2
  have g15 : (h.2.1 34 1).toInt = u34_1.toInt := by rw [← (show u34_1 = h.2.1 34 1 from u34_1w)] <;> exact (ti_rfl u34_1)
  have g16 : (h.2.1 34 7).toInt = u34_7.toInt := by rw [← (show u34_7 = h.2.1 34 7 from u34_7w)] <;> exact (ti_rfl u34_7)
  refine go_invV (pc := 1) (sl := 0) (s_X3_look l (d + 0) hv ) mL_X3_66 iM_X3_look sM_X3_look (hv.sh rfl) rfl rfl rfl (Nat.le_of_ble_eq_true rfl) (show d + 0 + 1 + 1 ≤ d + 2 by omega) (show 8 + (1 + 11) + 40 * (d + 0 + 1) ≤ 40 * (d + 2) by omega) (g_c0 hv.ln) (Nat.le_of_ble_eq_true rfl) dX3_take_1 ?_
  intro r h17 hq _
  obtain ⟨v21, rfl, v21l, v21u, hv17, f18, f19, f20, pt17⟩ := hq
  have pr17 : PR h → PR h17 := fun z => pt17 (pr z)
  obtain ⟨u22, u22w⟩ : ∃ v : Int32, v = h17.2.1 34 1 := ⟨_, rfl⟩
  have u22e : (h17.2.1 34 1).toInt = u22.toInt := by rw [u22w]
  have u22l : 0 ≤ u22.toInt := by rw [u22w]; exact (hv17.2.1 34 1).1
  have u22u : u22.toInt ≤ 500 := by rw [u22w]; exact (hv17.2.1 34 1).2
  obtain ⟨u23, u23w⟩ : ∃ v : Int32, v = h17.2.1 34 2 := ⟨_, rfl⟩
  have u23e : (h17.2.1 34 2).toInt = u23.toInt := by rw [u23w]
  have u23l : 0 ≤ u23.toInt := by rw [u23w]; exact (hv17.2.1 34 2).1
  have u23u : u23.toInt ≤ 500 := by rw [u23w]; exact (hv17.2.1 34 2).2
  obtain ⟨u24, u24w⟩ : ∃ v : Int32, v = h17.2.1 34 7 := ⟨_, rfl⟩
  have u24e : (h17.2.1 34 7).toInt = u24.toInt := by rw [u24w]
  have u24l : 0 ≤ u24.toInt := by rw [u24w]; exact (hv17.2.1 34 7).1
  have u24u : u24.toInt ≤ 7 := by rw [u24w]; exact (hv17.2.1 34 7).2
  refine go_iload_n (pc := 4) rfl dX3_take_4 ?_
  refine gf_icmp_ne (pc := 5) (tgt := 21) (ti_rfl v21) (ti_rfl a2) (by decide) dX3_take_5 (fun q25 => ?_) (fun q25 => ?_)
  ·
    refine go_aload_n (pc := 21) rfl dX3_take_21 ?_
    refine go_iconst (pc := 22) (v := 1) (by decide) dX3_take_22 ?_
    refine go_aload_n (pc := 23) rfl dX3_take_23 ?_
    refine gi_get (pc := 24) (lo := 0) (hi := 500) hv17 fL_X3_19 rfl (Nat.le_of_ble_eq_true rfl) rfl rfl dX3_take_24 (fun v26 v26l v26u v26w => ?_)
    have v26r : u23 = h17.2.1 34 2 := u23w
    have v26q : TI v26 u23.toInt := by rw [v26w.trans v26r.symm]; exact (ti_rfl u23)
    have g27 : (0 : Int) ≤ (h17.2.1 34 1).toInt := (hv17.2.1 34 1).1
    have g28 : (h17.2.1 34 1).toInt ≤ 500 := (hv17.2.1 34 1).2
    have g29 : (0 : Int) ≤ (h17.2.1 34 2).toInt := (hv17.2.1 34 2).1
    have g30 : (h17.2.1 34 2).toInt ≤ 500 := (hv17.2.1 34 2).2
    have g31 : (0 : Int) ≤ (h17.2.1 34 7).toInt := (hv17.2.1 34 7).1
    have g32 : (h17.2.1 34 7).toInt ≤ 7 := (hv17.2.1 34 7).2
    have g33 : (h17.2.1 34 1).toInt = u22.toInt := by rw [← (show u22 = h17.2.1 34 1 from u22w)] <;> exact (ti_rfl u22)
    have g34 : (h17.2.1 34 2).toInt = u23.toInt := by rw [← (show u23 = h17.2.1 34 2 from u23w)] <;> exact (ti_rfl u23)
    have g35 : (h17.2.1 34 7).toInt = u24.toInt := by rw [← (show u24 = h17.2.1 34 7 from u24w)] <;> exact (ti_rfl u24)
    refine go_invV (pc := 27) (sl := 0) (s_X3_blame l (d + 0) hv17 1 (by rw [show (1 : Int32).toInt = 1 from (ti_c (v := 1) (a := 1) (by decide))]; omega) (by rw [show (1 : Int32).toInt = 1 from (ti_c (v := 1) (a := 1) (by decide))]; omega) v26 (by rw [show (v26 : Int32).toInt = u23.toInt from v26q]; omega) (by rw [show (v26 : Int32).toInt = u23.toInt from v26q]; omega)) mL_X3_101 iM_X3_blame sM_X3_blame (hv17.sh rfl) rfl rfl rfl (Nat.le_of_ble_eq_true rfl) (show d + 0 + 1 + 1 ≤ d + 2 by omega) (show 8 + (3 + 11) + 40 * (d + 0 + 1) ≤ 40 * (d + 2) by omega) (g_c0 hv17.ln) (Nat.le_of_ble_eq_true rfl) dX3_take_27 ?_
    intro r h36 hq _
    obtain ⟨rfl, hv36, f37, f38, f39, f40, pt36⟩ := hq
    have pr36 : PR h → PR h36 := fun z => pt36 (pr17 z)
    try rw [show (1 : Int32).toInt = 1 from (ti_c (v := 1) (a := 1) (by decide))] at f37
    try rw [show (v26 : Int32).toInt = u23.toInt from v26q] at f37
    try rw [show (1 : Int32).toInt = 1 from (ti_c (v := 1) (a := 1) (by decide))] at f38
    try rw [show (v26 : Int32).toInt = u23.toInt from v26q] at f38
    try rw [show (1 : Int32).toInt = 1 from (ti_c (v := 1) (a := 1) (by decide))] at f39
    try rw [show (v26 : Int32).toInt = u23.toInt from v26q] at f39
    try rw [show (1 : Int32).toInt = 1 from (ti_c (v := 1) (a := 1) (by decide))] at f40
    try rw [show (v26 : Int32).toInt = u23.toInt from v26q] at f40
    obtain ⟨u41, u41w⟩ : ∃ v : Int32, v = h36.2.1 34 1 := ⟨_, rfl⟩
    have u41e : (h36.2.1 34 1).toInt = u41.toInt := by rw [u41w]
    have u41l : 0 ≤ u41.toInt := by rw [u41w]; exact (hv36.2.1 34 1).1
    have u41u : u41.toInt ≤ 500 := by rw [u41w]; exact (hv36.2.1 34 1).2
    obtain ⟨u42, u42w⟩ : ∃ v : Int32, v = h36.2.1 34 2 := ⟨_, rfl⟩
    have u42e : (h36.2.1 34 2).toInt = u42.toInt := by rw [u42w]
    have u42l : 0 ≤ u42.toInt := by rw [u42w]; exact (hv36.2.1 34 2).1
    have u42u : u42.toInt ≤ 500 := by rw [u42w]; exact (hv36.2.1 34 2).2
    obtain ⟨u43, u43w⟩ : ∃ v : Int32, v = h36.2.1 34 7 := ⟨_, rfl⟩
    have u43e : (h36.2.1 34 7).toInt = u43.toInt := by rw [u43w]
    have u43l : 0 ≤ u43.toInt := by rw [u43w]; exact (hv36.2.1 34 7).1
    have u43u : u43.toInt ≤ 7 := by rw [u43w]; exact (hv36.2.1 34 7).2
    have g44 : (0 : Int) ≤ (h36.2.1 34 1).toInt := (hv36.2.1 34 1).1
    have g45 : (h36.2.1 34 1).toInt ≤ 500 := (hv36.2.1 34 1).2
    have g46 : (0 : Int) ≤ (h36.2.1 34 2).toInt := (hv36.2.1 34 2).1
    have g47 : (h36.2.1 34 2).toInt ≤ 500 := (hv36.2.1 34 2).2
    have g48 : (0 : Int) ≤ (h36.2.1 34 7).toInt := (hv36.2.1 34 7).1
    have g49 : (h36.2.1 34 7).toInt ≤ 7 := (hv36.2.1 34 7).2
    have g50 : (h36.2.1 34 1).toInt = u41.toInt := by rw [← (show u41 = h36.2.1 34 1 from u41w)] <;> exact (ti_rfl u41)
    have g51 : (h36.2.1 34 2).toInt = u42.toInt := by rw [← (show u42 = h36.2.1 34 2 from u42w)] <;> exact (ti_rfl u42)
    have g52 : (h36.2.1 34 7).toInt = u43.toInt := by rw [← (show u43 = h36.2.1 34 7 from u43w)] <;> exact (ti_rfl u43)
    exact go_lv rfl ((key 14)  h36 hv36 pr36 (by omega) (by omega) (by omega) (by omega) (by omega) (by omega) (by omega) (by omega) (by omega))
  ·
    refine go_aload_n (pc := 8) rfl dX3_take_8 ?_
    refine go_dup (pc := 9) rfl dX3_take_9 ?_
    refine gi_get (pc := 10) (lo := 0) (hi := 500) hv17 fL_X3_19 rfl (Nat.le_of_ble_eq_true rfl) rfl rfl dX3_take_10 (fun v53 v53l v53u v53w => ?_)
    have v53r : u23 = h17.2.1 34 2 := u23w
    have v53q : TI v53 u23.toInt := by rw [v53w.trans v53r.symm]; exact (ti_rfl u23)
    refine go_iconst (pc := 13) (v := 1) (by decide) dX3_take_13 ?_
    refine gf_iadd (pc := 14) v53q (ti_c (v := 1) (a := 1) (by decide)) (by omega) (by omega) dX3_take_14 (fun v54 e55 => ?_)
    refine gi_put (pc := 15) (lo := 0) (hi := 500) hv17 e55 (fP_X3_19 _) rfl (Nat.le_of_ble_eq_true rfl) rfl rfl (by omega) (by omega) rfl rfl (by decide) (by decide) (by decide) (by decide) dX3_take_15 (fun h56 hv56 hv56e => ?_)
    have pr56 : PR h → PR h56 := fun z => by rw [hv56e]; exact PR.put hv17 (pr17 z) (by omega)
    refine go_goto (pc := 18) (tgt := 30) (by decide) dX3_take_18 ?_
    have g57 : (0 : Int) ≤ (h56.2.1 34 1).toInt := (hv56.2.1 34 1).1
    have g58 : (h56.2.1 34 1).toInt ≤ 500 := (hv56.2.1 34 1).2
    have g59 : (0 : Int) ≤ (h56.2.1 34 2).toInt := (hv56.2.1 34 2).1
    have g60 : (h56.2.1 34 2).toInt ≤ 500 := (hv56.2.1 34 2).2
    have g61 : (0 : Int) ≤ (h56.2.1 34 7).toInt := (hv56.2.1 34 7).1
    have g62 : (h56.2.1 34 7).toInt ≤ 7 := (hv56.2.1 34 7).2
    have g63 : (h56.2.1 34 1).toInt = u22.toInt := by rw [← (show u22 = h56.2.1 34 1 from (show u22 = h56.2.1 34 1 from by rw [hv56e]; exact (g_iI rfl u22w.symm).symm))] <;> exact (ti_rfl u22)
    have g64 : (h56.2.1 34 7).toInt = u24.toInt := by rw [← (show u24 = h56.2.1 34 7 from (show u24 = h56.2.1 34 7 from by rw [hv56e]; exact (g_iI rfl u24w.symm).symm))] <;> exact (ti_rfl u24)
    have g65 : (h56.2.1 34 2).toInt = (u23.toInt + 1) := by rw [← (show v54 = h56.2.1 34 2 from (show v54 = h56.2.1 34 2 from by rw [hv56e]; exact g_iS.symm))] <;> exact e55
    exact go_lv rfl ((key 14)  h56 hv56 pr56 (by omega) (by omega) (by omega) (by omega) (by omega) (by omega) (by omega) (by omega) (by omega))
set_option maxHeartbeats 4000000 in
set_option maxRecDepth 100000 in
theorem s_X3_readNumber (l : Launch) (d : Nat) {P : PP} {h : HP} (hv : Iv P h)  : Mt l yX3_readNumber cX3_readNumber 3 (some .int) (d + 2) [.ref 34] h 0 0 (fun r h' => ∃ v : Int32, r = some (.int v) ∧ -2147483648 ≤ v.toInt ∧ v.toInt ≤ 2147483647 ∧ Iv P h' ∧ ((h'.2.1 34 1).toInt = (h.2.1 34 1).toInt) ∧ ((h'.2.1 34 7).toInt = (h.2.1 34 7).toInt) ∧ (PR h → PR h')) := by
  refine Mt_iv hv (by decide) (Nat.le_of_ble_eq_true rfl) ?_
  show Go l RX3 cX3_readNumber 3 (g_rm (d + 2) 0 0) "readNumber" (some .int) 117 0 0 (fun _ _ => True) (fun r h' => ∃ v : Int32, r = some (.int v) ∧ -2147483648 ≤ v.toInt ∧ v.toInt ≤ 2147483647 ∧ Iv P h' ∧ ((h'.2.1 34 1).toInt = (h.2.1 34 1).toInt) ∧ ((h'.2.1 34 7).toInt = (h.2.1 34 7).toInt) ∧ (PR h → PR h')) 0 0 [(0, .ref 34)] [] h
  have pr : PR h → PR h := id
  have key : ∀ n : Nat, (∀ (l1 : Int32) (l2 : Int32) (hx : HP), Iv P hx → 0 ≤ l1.toInt → l1.toInt ≤ 500 → (PR h → PR hx) → (hx.2.1 34 1).toInt = (h.2.1 34 1).toInt → (hx.2.1 34 7).toInt = (h.2.1 34 7).toInt → (0 : Int) ≤ (hx.2.1 34 1).toInt → (hx.2.1 34 1).toInt ≤ 500 → (0 : Int) ≤ (hx.2.1 34 2).toInt → (hx.2.1 34 2).toInt ≤ 500 → (0 : Int) ≤ (hx.2.1 34 7).toInt → (hx.2.1 34 7).toInt ≤ 7 → (4 * (500 - (hx.2.1 34 2).toInt) + 5 : Int) < n → Go l RX3 cX3_readNumber 3 (g_rm (d + 2) 0 0) "readNumber" (some .int) 117 0 0 (fun _ _ => True) (fun r h' => ∃ v : Int32, r = some (.int v) ∧ -2147483648 ≤ v.toInt ∧ v.toInt ≤ 2147483647 ∧ Iv P h' ∧ ((h'.2.1 34 1).toInt = (h.2.1 34 1).toInt) ∧ ((h'.2.1 34 7).toInt = (h.2.1 34 7).toInt) ∧ (PR h → PR h')) 0 7 [(0, .ref 34), (1, .int l1), (2, .int l2)] [] hx) ∧ (∀ (l1 : Int32) (l2 : Int32) (hx : HP), Iv P hx → 0 ≤ l1.toInt → l1.toInt ≤ 500 → ((hx.2.1 34 2).toInt ≤ 499) → (PR h → PR hx) → (hx.2.1 34 1).toInt = (h.2.1 34 1).toInt → (hx.2.1 34 7).toInt = (h.2.1 34 7).toInt → (0 : Int) ≤ (hx.2.1 34 1).toInt → (hx.2.1 34 1).toInt ≤ 500 → (0 : Int) ≤ (hx.2.1 34 2).toInt → (hx.2.1 34 2).toInt ≤ 500 → (0 : Int) ≤ (hx.2.1 34 7).toInt → (hx.2.1 34 7).toInt ≤ 7 → (4 * (500 - (hx.2.1 34 2).toInt) + 4 : Int) < n → Go l RX3 cX3_readNumber 3 (g_rm (d + 2) 0 0) "readNumber" (some .int) 117 0 0 (fun _ _ => True) (fun r h' => ∃ v : Int32, r = some (.int v) ∧ -2147483648 ≤ v.toInt ∧ v.toInt ≤ 2147483647 ∧ Iv P h' ∧ ((h'.2.1 34 1).toInt = (h.2.1 34 1).toInt) ∧ ((h'.2.1 34 7).toInt = (h.2.1 34 7).toInt) ∧ (PR h → PR h')) 0 61 [(0, .ref 34), (1, .int l1), (2, .int l2)] [] hx) ∧ (∀ (l1 : Int32) (l2 : Int32) (hx : HP), Iv P hx → 0 ≤ l1.toInt → l1.toInt ≤ 500 → (PR h → PR hx) → (hx.2.1 34 1).toInt = (h.2.1 34 1).toInt → (hx.2.1 34 7).toInt = (h.2.1 34 7).toInt → (0 : Int) ≤ (hx.2.1 34 1).toInt → (hx.2.1 34 1).toInt ≤ 500 → (0 : Int) ≤ (hx.2.1 34 2).toInt → (hx.2.1 34 2).toInt ≤ 500 → (0 : Int) ≤ (hx.2.1 34 7).toInt → (hx.2.1 34 7).toInt ≤ 7 → (2 : Int) < n → Go l RX3 cX3_readNumber 3 (g_rm (d + 2) 0 0) "readNumber" (some .int) 117 0 0 (fun _ _ => True) (fun r h' => ∃ v : Int32, r = some (.int v) ∧ -2147483648 ≤ v.toInt ∧ v.toInt ≤ 2147483647 ∧ Iv P h' ∧ ((h'.2.1 34 1).toInt = (h.2.1 34 1).toInt) ∧ ((h'.2.1 34 7).toInt = (h.2.1 34 7).toInt) ∧ (PR h → PR h')) 0 74 [(0, .ref 34), (1, .int l1), (2, .int l2)] [] hx) ∧ (∀ (l2 : Int32) (hx : HP), Iv P hx → (PR h → PR hx) → (hx.2.1 34 1).toInt = (h.2.1 34 1).toInt → (hx.2.1 34 7).toInt = (h.2.1 34 7).toInt → (0 : Int) ≤ (hx.2.1 34 1).toInt → (hx.2.1 34 1).toInt ≤ 500 → (0 : Int) ≤ (hx.2.1 34 2).toInt → (hx.2.1 34 2).toInt ≤ 500 → (0 : Int) ≤ (hx.2.1 34 7).toInt → (hx.2.1 34 7).toInt ≤ 7 → (1 : Int) < n → Go l RX3 cX3_readNumber 3 (g_rm (d + 2) 0 0) "readNumber" (some .int) 117 0 0 (fun _ _ => True) (fun r h' => ∃ v : Int32, r = some (.int v) ∧ -2147483648 ≤ v.toInt ∧ v.toInt ≤ 2147483647 ∧ Iv P h' ∧ ((h'.2.1 34 1).toInt = (h.2.1 34 1).toInt) ∧ ((h'.2.1 34 7).toInt = (h.2.1 34 7).toInt) ∧ (PR h → PR h')) 0 90 [(2, .int l2)] [] hx) := by
    intro n
    induction n with
    | zero => exact ⟨(by intros; omega), (by intros; omega), (by intros; omega), (by intros; omega)⟩
    | succ n ih =>
      refine ⟨?_, ?_, ?_, ?_⟩
      ·
        intro l1 l2 hx hvx l1l l1u prx t0 t1 y0l y0u y1l y1u y2l y2u hm
        obtain ⟨u34_1, u34_1w⟩ : ∃ v : Int32, v = hx.2.1 34 1 := ⟨_, rfl⟩
        have u34_1e : (hx.2.1 34 1).toInt = u34_1.toInt := by rw [u34_1w]
        have u34_1l : 0 ≤ u34_1.toInt := by rw [u34_1w]; exact (hvx.2.1 34 1).1
        have u34_1u : u34_1.toInt ≤ 500 := by rw [u34_1w]; exact (hvx.2.1 34 1).2
        obtain ⟨u34_7, u34_7w⟩ : ∃ v : Int32, v = hx.2.1 34 7 := ⟨_, rfl⟩
        have u34_7e : (hx.2.1 34 7).toInt = u34_7.toInt := by rw [u34_7w]
        have u34_7l : 0 ≤ u34_7.toInt := by rw [u34_7w]; exact (hvx.2.1 34 7).1
        have u34_7u : u34_7.toInt ≤ 7 := by rw [u34_7w]; exact (hvx.2.1 34 7).2
        refine go_aload_n (pc := 7) rfl dX3_readNumber_7 ?_
        refine gi_get (pc := 8) (lo := 0) (hi := 500) hvx fL_X3_19 rfl (Nat.le_of_ble_eq_true rfl) rfl rfl dX3_readNumber_8 (fun v1 v1l v1u v1w => ?_)
        have g2 : (hx.2.1 34 2).toInt = v1.toInt := by rw [v1w]
        refine go_aload_n (pc := 11) rfl dX3_readNumber_11 ?_
        refine gi_get (pc := 12) (lo := 0) (hi := 500) hvx fL_X3_15 rfl (Nat.le_of_ble_eq_true rfl) rfl rfl dX3_readNumber_12 (fun v3 v3l v3u v3w => ?_)
        have v3r : u34_1 = hx.2.1 34 1 := u34_1w
        have v3q : TI v3 u34_1.toInt := by rw [v3w.trans v3r.symm]; exact (ti_rfl u34_1)
        refine gf_icmp_ge (pc := 15) (tgt := 74) (ti_rfl v1) v3q (by decide) dX3_readNumber_15 (fun q4 => ?_) (fun q4 => ?_)
        ·
          have g5 : (0 : Int) ≤ (hx.2.1 34 1).toInt := (hvx.2.1 34 1).1
          have g6 : (hx.2.1 34 1).toInt ≤ 500 := (hvx.2.1 34 1).2
          have g7 : (0 : Int) ≤ (hx.2.1 34 2).toInt := (hvx.2.1 34 2).1
          have g8 : (hx.2.1 34 2).toInt ≤ 500 := (hvx.2.1 34 2).2
          have g9 : (0 : Int) ≤ (hx.2.1 34 7).toInt := (hvx.2.1 34 7).1
          have g10 : (hx.2.1 34 7).toInt ≤ 7 := (hvx.2.1 34 7).2
          have g11 : (hx.2.1 34 1).toInt = u34_1.toInt := by rw [← (show u34_1 = hx.2.1 34 1 from u34_1w)] <;> exact (ti_rfl u34_1)
          have g12 : (hx.2.1 34 7).toInt = u34_7.toInt := by rw [← (show u34_7 = hx.2.1 34 7 from u34_7w)] <;> exact (ti_rfl u34_7)
          have g13 : (hx.2.1 34 2).toInt = v1.toInt := by rw [← (show v1 = hx.2.1 34 2 from v1w)] <;> exact (ti_rfl v1)
          exact go_lv rfl (ih.2.2.1 l1 l2 hx hvx (by omega) (by omega) prx (by omega) (by omega) (by omega) (by omega) (by omega) (by omega) (by omega) (by omega) (by omega))
        ·
          refine go_aload_n (pc := 18) rfl dX3_readNumber_18 ?_
          have g14 : (0 : Int) ≤ (hx.2.1 34 1).toInt := (hvx.2.1 34 1).1
          have g15 : (hx.2.1 34 1).toInt ≤ 500 := (hvx.2.1 34 1).2
          have g16 : (0 : Int) ≤ (hx.2.1 34 2).toInt := (hvx.2.1 34 2).1
          have g17 : (hx.2.1 34 2).toInt ≤ 500 := (hvx.2.1 34 2).2
          have g18 : (0 : Int) ≤ (hx.2.1 34 7).toInt := (hvx.2.1 34 7).1
          have g19 : (hx.2.1 34 7).toInt ≤ 7 := (hvx.2.1 34 7).2
          have g20 : (hx.2.1 34 1).toInt = u34_1.toInt := by rw [← (show u34_1 = hx.2.1 34 1 from u34_1w)] <;> exact (ti_rfl u34_1)
          have g21 : (hx.2.1 34 7).toInt = u34_7.toInt := by rw [← (show u34_7 = hx.2.1 34 7 from u34_7w)] <;> exact (ti_rfl u34_7)
          have g22 : (hx.2.1 34 2).toInt = v1.toInt := by rw [← (show v1 = hx.2.1 34 2 from v1w)] <;> exact (ti_rfl v1)
          refine gi_getF (pc := 19) (q := 1) hvx fL_X3_9 rfl (Nat.le_of_ble_eq_true rfl) rfl (hvx.tx (by omega)) dX3_readNumber_19 ?_
          refine go_aload_n (pc := 22) rfl dX3_readNumber_22 ?_
          refine gi_get (pc := 23) (lo := 0) (hi := 500) hvx fL_X3_19 rfl (Nat.le_of_ble_eq_true rfl) rfl rfl dX3_readNumber_23 (fun v23 v23l v23u v23w => ?_)
          have v23r : v1 = hx.2.1 34 2 := v1w
          have v23q : TI v23 v1.toInt := by rw [v23w.trans v23r.symm]; exact (ti_rfl v1)
          refine gi_bald (pc := 26) (lo := -128) (hi := 127) (len := 500) hvx v23q rfl (by omega) (by omega) (fun _ => rfl) dX3_readNumber_26 (fun v24 v24l v24u v24w => ?_)
          refine go_invS (pc := 27) (sl := 0) (s_X3_isDigit l (d + 0) hvx v24) mL_X3_210 iM_X3_isDigit rfl rfl (Nat.le_of_ble_eq_true rfl) (show d + 0 + 1 + 1 ≤ d + 2 by omega) (show 8 + (1 + 11) + 40 * (d + 0 + 1) ≤ 40 * (d + 2) by omega) (g_c0 hvx.ln) (Nat.le_of_ble_eq_true rfl) dX3_readNumber_27 ?_
          intro r h25 hq _
          obtain ⟨v26, rfl, v26l, v26u, rfl⟩ := hq
          refine gf_if_eq (pc := 30) (tgt := 74) (ti_rfl v26) (by decide) dX3_readNumber_30 (fun q27 => ?_) (fun q27 => ?_)
          ·
            have g28 : (0 : Int) ≤ (hx.2.1 34 1).toInt := (hvx.2.1 34 1).1
            have g29 : (hx.2.1 34 1).toInt ≤ 500 := (hvx.2.1 34 1).2
            have g30 : (0 : Int) ≤ (hx.2.1 34 2).toInt := (hvx.2.1 34 2).1
            have g31 : (hx.2.1 34 2).toInt ≤ 500 := (hvx.2.1 34 2).2
            have g32 : (0 : Int) ≤ (hx.2.1 34 7).toInt := (hvx.2.1 34 7).1
            have g33 : (hx.2.1 34 7).toInt ≤ 7 := (hvx.2.1 34 7).2
            have g34 : (hx.2.1 34 1).toInt = u34_1.toInt := by rw [← (show u34_1 = hx.2.1 34 1 from u34_1w)] <;> exact (ti_rfl u34_1)
            have g35 : (hx.2.1 34 7).toInt = u34_7.toInt := by rw [← (show u34_7 = hx.2.1 34 7 from u34_7w)] <;> exact (ti_rfl u34_7)
            have g36 : (hx.2.1 34 2).toInt = v1.toInt := by rw [← (show v1 = hx.2.1 34 2 from v1w)] <;> exact (ti_rfl v1)
            exact go_lv rfl (ih.2.2.1 l1 l2 hx hvx (by omega) (by omega) prx (by omega) (by omega) (by omega) (by omega) (by omega) (by omega) (by omega) (by omega) (by omega))
          ·
            refine go_aload_n (pc := 33) rfl dX3_readNumber_33 ?_
            refine gi_get (pc := 34) (lo := 0) (hi := 500) hvx fL_X3_19 rfl (Nat.le_of_ble_eq_true rfl) rfl rfl dX3_readNumber_34 (fun v37 v37l v37u v37w => ?_)
            have v37r : v1 = hx.2.1 34 2 := v1w
            have v37q : TI v37 v1.toInt := by rw [v37w.trans v37r.symm]; exact (ti_rfl v1)
            refine go_iload_n (pc := 37) rfl dX3_readNumber_37 ?_
            refine gf_isub (pc := 38) v37q (ti_rfl l1) (by omega) (by omega) dX3_readNumber_38 (fun v38 e39 => ?_)
            refine go_iconst (pc := 39) (v := 3) (by decide) dX3_readNumber_39 ?_
            refine gf_icmp_ge (pc := 40) (tgt := 61) e39 (ti_c (v := 3) (a := 3) (by decide)) (by decide) dX3_readNumber_40 (fun q40 => ?_) (fun q40 => ?_)
            ·
              have g41 : (0 : Int) ≤ (hx.2.1 34 1).toInt := (hvx.2.1 34 1).1
              have g42 : (hx.2.1 34 1).toInt ≤ 500 := (hvx.2.1 34 1).2
              have g43 : (0 : Int) ≤ (hx.2.1 34 2).toInt := (hvx.2.1 34 2).1
              have g44 : (hx.2.1 34 2).toInt ≤ 500 := (hvx.2.1 34 2).2
              have g45 : (0 : Int) ≤ (hx.2.1 34 7).toInt := (hvx.2.1 34 7).1
              have g46 : (hx.2.1 34 7).toInt ≤ 7 := (hvx.2.1 34 7).2
              have g47 : (hx.2.1 34 1).toInt = u34_1.toInt := by rw [← (show u34_1 = hx.2.1 34 1 from u34_1w)] <;> exact (ti_rfl u34_1)
              have g48 : (hx.2.1 34 7).toInt = u34_7.toInt := by rw [← (show u34_7 = hx.2.1 34 7 from u34_7w)] <;> exact (ti_rfl u34_7)
              have g49 : (hx.2.1 34 2).toInt = v1.toInt := by rw [← (show v1 = hx.2.1 34 2 from v1w)] <;> exact (ti_rfl v1)
              exact go_lv rfl (ih.2.1 l1 l2 hx hvx (by omega) (by omega) (by omega) prx (by omega) (by omega) (by omega) (by omega) (by omega) (by omega) (by omega) (by omega) (by omega))
            ·
              refine go_iload_n (pc := 43) rfl dX3_readNumber_43 ?_
              refine go_bipush (pc := 44) (v := 10) (by decide) dX3_readNumber_44 ?_
              refine gu_imul (pc := 46) dX3_readNumber_46 (fun v50 => ?_)
              refine go_aload_n (pc := 47) rfl dX3_readNumber_47 ?_
              have g51 : (0 : Int) ≤ (hx.2.1 34 1).toInt := (hvx.2.1 34 1).1
              have g52 : (hx.2.1 34 1).toInt ≤ 500 := (hvx.2.1 34 1).2
              have g53 : (0 : Int) ≤ (hx.2.1 34 2).toInt := (hvx.2.1 34 2).1
              have g54 : (hx.2.1 34 2).toInt ≤ 500 := (hvx.2.1 34 2).2
              have g55 : (0 : Int) ≤ (hx.2.1 34 7).toInt := (hvx.2.1 34 7).1
              have g56 : (hx.2.1 34 7).toInt ≤ 7 := (hvx.2.1 34 7).2
              have g57 : (hx.2.1 34 1).toInt = u34_1.toInt := by rw [← (show u34_1 = hx.2.1 34 1 from u34_1w)] <;> exact (ti_rfl u34_1)
              have g58 : (hx.2.1 34 7).toInt = u34_7.toInt := by rw [← (show u34_7 = hx.2.1 34 7 from u34_7w)] <;> exact (ti_rfl u34_7)
              have g59 : (hx.2.1 34 2).toInt = v1.toInt := by rw [← (show v1 = hx.2.1 34 2 from v1w)] <;> exact (ti_rfl v1)
              refine gi_getF (pc := 48) (q := 1) hvx fL_X3_9 rfl (Nat.le_of_ble_eq_true rfl) rfl (hvx.tx (by omega)) dX3_readNumber_48 ?_
              refine go_aload_n (pc := 51) rfl dX3_readNumber_51 ?_
              refine gi_get (pc := 52) (lo := 0) (hi := 500) hvx fL_X3_19 rfl (Nat.le_of_ble_eq_true rfl) rfl rfl dX3_readNumber_52 (fun v60 v60l v60u v60w => ?_)
              have v60r : v1 = hx.2.1 34 2 := v1w
              have v60q : TI v60 v1.toInt := by rw [v60w.trans v60r.symm]; exact (ti_rfl v1)
              refine gi_bald (pc := 55) (lo := -128) (hi := 127) (len := 500) hvx v60q rfl (by omega) (by omega) (fun _ => rfl) dX3_readNumber_55 (fun v61 v61l v61u v61w => ?_)
              refine gu_iadd (pc := 56) dX3_readNumber_56 (fun v62 => ?_)
              refine go_bipush (pc := 57) (v := 48) (by decide) dX3_readNumber_57 ?_
              refine gu_isub (pc := 59) dX3_readNumber_59 (fun v63 => ?_)
              refine go_istore_n (pc := 60) (Nat.le_of_ble_eq_true rfl) dX3_readNumber_60 (go_lv (lv2 := [(0, .ref 34), (1, .int l1), (2, .int v63)]) rfl ?_)
              have g64 : (0 : Int) ≤ (hx.2.1 34 1).toInt := (hvx.2.1 34 1).1
              have g65 : (hx.2.1 34 1).toInt ≤ 500 := (hvx.2.1 34 1).2
              have g66 : (0 : Int) ≤ (hx.2.1 34 2).toInt := (hvx.2.1 34 2).1
              have g67 : (hx.2.1 34 2).toInt ≤ 500 := (hvx.2.1 34 2).2
              have g68 : (0 : Int) ≤ (hx.2.1 34 7).toInt := (hvx.2.1 34 7).1
              have g69 : (hx.2.1 34 7).toInt ≤ 7 := (hvx.2.1 34 7).2
              have g70 : (hx.2.1 34 1).toInt = u34_1.toInt := by rw [← (show u34_1 = hx.2.1 34 1 from u34_1w)] <;> exact (ti_rfl u34_1)
              have g71 : (hx.2.1 34 7).toInt = u34_7.toInt := by rw [← (show u34_7 = hx.2.1 34 7 from u34_7w)] <;> exact (ti_rfl u34_7)
              have g72 : (hx.2.1 34 2).toInt = v1.toInt := by rw [← (show v1 = hx.2.1 34 2 from v1w)] <;> exact (ti_rfl v1)
              exact go_lv rfl (ih.2.1 l1 v63 hx hvx (by omega) (by omega) (by omega) prx (by omega) (by omega) (by omega) (by omega) (by omega) (by omega) (by omega) (by omega) (by omega))
      ·
        intro l1 l2 hx hvx l1l l1u x0 prx t0 t1 y0l y0u y1l y1u y2l y2u hm
        obtain ⟨u34_1, u34_1w⟩ : ∃ v : Int32, v = hx.2.1 34 1 := ⟨_, rfl⟩
        have u34_1e : (hx.2.1 34 1).toInt = u34_1.toInt := by rw [u34_1w]
        have u34_1l : 0 ≤ u34_1.toInt := by rw [u34_1w]; exact (hvx.2.1 34 1).1
        have u34_1u : u34_1.toInt ≤ 500 := by rw [u34_1w]; exact (hvx.2.1 34 1).2
        obtain ⟨u34_7, u34_7w⟩ : ∃ v : Int32, v = hx.2.1 34 7 := ⟨_, rfl⟩
        have u34_7e : (hx.2.1 34 7).toInt = u34_7.toInt := by rw [u34_7w]
        have u34_7l : 0 ≤ u34_7.toInt := by rw [u34_7w]; exact (hvx.2.1 34 7).1
        have u34_7u : u34_7.toInt ≤ 7 := by rw [u34_7w]; exact (hvx.2.1 34 7).2
        refine go_aload_n (pc := 61) rfl dX3_readNumber_61 ?_
        refine go_dup (pc := 62) rfl dX3_readNumber_62 ?_
        refine gi_get (pc := 63) (lo := 0) (hi := 500) hvx fL_X3_19 rfl (Nat.le_of_ble_eq_true rfl) rfl rfl dX3_readNumber_63 (fun v73 v73l v73u v73w => ?_)
        have g74 : (hx.2.1 34 2).toInt = v73.toInt := by rw [v73w]
        refine go_iconst (pc := 66) (v := 1) (by decide) dX3_readNumber_66 ?_
        refine gf_iadd (pc := 67) (ti_rfl v73) (ti_c (v := 1) (a := 1) (by decide)) (by omega) (by omega) dX3_readNumber_67 (fun v75 e76 => ?_)
        refine gi_put (pc := 68) (lo := 0) (hi := 500) hvx e76 (fP_X3_19 _) rfl (Nat.le_of_ble_eq_true rfl) rfl rfl (by omega) (by omega) rfl rfl (by decide) (by decide) (by decide) (by decide) dX3_readNumber_68 (fun h77 hv77 hv77e => ?_)
        have pr77 : PR h → PR h77 := fun z => by rw [hv77e]; exact PR.put hvx (prx z) (by omega)
        refine go_goto (pc := 71) (tgt := 7) (by decide) dX3_readNumber_71 ?_
        have g78 : (0 : Int) ≤ (h77.2.1 34 1).toInt := (hv77.2.1 34 1).1
        have g79 : (h77.2.1 34 1).toInt ≤ 500 := (hv77.2.1 34 1).2
        have g80 : (0 : Int) ≤ (h77.2.1 34 2).toInt := (hv77.2.1 34 2).1
        have g81 : (h77.2.1 34 2).toInt ≤ 500 := (hv77.2.1 34 2).2
        have g82 : (0 : Int) ≤ (h77.2.1 34 7).toInt := (hv77.2.1 34 7).1
        have g83 : (h77.2.1 34 7).toInt ≤ 7 := (hv77.2.1 34 7).2
        have g84 : (h77.2.1 34 1).toInt = u34_1.toInt := by rw [← (show u34_1 = h77.2.1 34 1 from (show u34_1 = h77.2.1 34 1 from by rw [hv77e]; exact (g_iI rfl u34_1w.symm).symm))] <;> exact (ti_rfl u34_1)
        have g85 : (h77.2.1 34 7).toInt = u34_7.toInt := by rw [← (show u34_7 = h77.2.1 34 7 from (show u34_7 = h77.2.1 34 7 from by rw [hv77e]; exact (g_iI rfl u34_7w.symm).symm))] <;> exact (ti_rfl u34_7)
        have g86 : (h77.2.1 34 2).toInt = (v73.toInt + 1) := by rw [← (show v75 = h77.2.1 34 2 from (show v75 = h77.2.1 34 2 from by rw [hv77e]; exact g_iS.symm))] <;> exact e76
        exact go_lv rfl (ih.1 l1 l2 h77 hv77 (by omega) (by omega) pr77 (by omega) (by omega) (by omega) (by omega) (by omega) (by omega) (by omega) (by omega) (by omega))
      ·
        intro l1 l2 hx hvx l1l l1u prx t0 t1 y0l y0u y1l y1u y2l y2u hm
        obtain ⟨u34_1, u34_1w⟩ : ∃ v : Int32, v = hx.2.1 34 1 := ⟨_, rfl⟩
        have u34_1e : (hx.2.1 34 1).toInt = u34_1.toInt := by rw [u34_1w]
        have u34_1l : 0 ≤ u34_1.toInt := by rw [u34_1w]; exact (hvx.2.1 34 1).1
        have u34_1u : u34_1.toInt ≤ 500 := by rw [u34_1w]; exact (hvx.2.1 34 1).2
        obtain ⟨u34_7, u34_7w⟩ : ∃ v : Int32, v = hx.2.1 34 7 := ⟨_, rfl⟩
        have u34_7e : (hx.2.1 34 7).toInt = u34_7.toInt := by rw [u34_7w]
        have u34_7l : 0 ≤ u34_7.toInt := by rw [u34_7w]; exact (hvx.2.1 34 7).1
        have u34_7u : u34_7.toInt ≤ 7 := by rw [u34_7w]; exact (hvx.2.1 34 7).2
        refine go_aload_n (pc := 74) rfl dX3_readNumber_74 ?_
        refine gi_get (pc := 75) (lo := 0) (hi := 500) hvx fL_X3_19 rfl (Nat.le_of_ble_eq_true rfl) rfl rfl dX3_readNumber_75 (fun v87 v87l v87u v87w => ?_)
        have g88 : (hx.2.1 34 2).toInt = v87.toInt := by rw [v87w]
        refine go_iload_n (pc := 78) rfl dX3_readNumber_78 ?_
        refine gf_isub (pc := 79) (ti_rfl v87) (ti_rfl l1) (by omega) (by omega) dX3_readNumber_79 (fun v89 e90 => ?_)
        refine go_iconst (pc := 80) (v := 3) (by decide) dX3_readNumber_80 ?_
        refine gf_icmp_le (pc := 81) (tgt := 90) e90 (ti_c (v := 3) (a := 3) (by decide)) (by decide) dX3_readNumber_81 (fun q91 => ?_) (fun q91 => ?_)
        ·
          have g92 : (0 : Int) ≤ (hx.2.1 34 1).toInt := (hvx.2.1 34 1).1
          have g93 : (hx.2.1 34 1).toInt ≤ 500 := (hvx.2.1 34 1).2
          have g94 : (0 : Int) ≤ (hx.2.1 34 2).toInt := (hvx.2.1 34 2).1
          have g95 : (hx.2.1 34 2).toInt ≤ 500 := (hvx.2.1 34 2).2
          have g96 : (0 : Int) ≤ (hx.2.1 34 7).toInt := (hvx.2.1 34 7).1
          have g97 : (hx.2.1 34 7).toInt ≤ 7 := (hvx.2.1 34 7).2
          have g98 : (hx.2.1 34 1).toInt = u34_1.toInt := by rw [← (show u34_1 = hx.2.1 34 1 from u34_1w)] <;> exact (ti_rfl u34_1)
          have g99 : (hx.2.1 34 7).toInt = u34_7.toInt := by rw [← (show u34_7 = hx.2.1 34 7 from u34_7w)] <;> exact (ti_rfl u34_7)
          have g100 : (hx.2.1 34 2).toInt = v87.toInt := by rw [← (show v87 = hx.2.1 34 2 from v87w)] <;> exact (ti_rfl v87)
          exact go_lv rfl (ih.2.2.2 l2 hx hvx prx (by omega) (by omega) (by omega) (by omega) (by omega) (by omega) (by omega) (by omega) (by omega))
        ·
          refine go_aload_n (pc := 84) rfl dX3_readNumber_84 ?_
          refine go_iconst (pc := 85) (v := 2) (by decide) dX3_readNumber_85 ?_
          refine go_iload_n (pc := 86) rfl dX3_readNumber_86 ?_
          have g101 : (0 : Int) ≤ (hx.2.1 34 1).toInt := (hvx.2.1 34 1).1
          have g102 : (hx.2.1 34 1).toInt ≤ 500 := (hvx.2.1 34 1).2
          have g103 : (0 : Int) ≤ (hx.2.1 34 2).toInt := (hvx.2.1 34 2).1
          have g104 : (hx.2.1 34 2).toInt ≤ 500 := (hvx.2.1 34 2).2
          have g105 : (0 : Int) ≤ (hx.2.1 34 7).toInt := (hvx.2.1 34 7).1
          have g106 : (hx.2.1 34 7).toInt ≤ 7 := (hvx.2.1 34 7).2
          have g107 : (hx.2.1 34 1).toInt = u34_1.toInt := by rw [← (show u34_1 = hx.2.1 34 1 from u34_1w)] <;> exact (ti_rfl u34_1)
          have g108 : (hx.2.1 34 7).toInt = u34_7.toInt := by rw [← (show u34_7 = hx.2.1 34 7 from u34_7w)] <;> exact (ti_rfl u34_7)
          have g109 : (hx.2.1 34 2).toInt = v87.toInt := by rw [← (show v87 = hx.2.1 34 2 from v87w)] <;> exact (ti_rfl v87)
          refine go_invV (pc := 87) (sl := 0) (s_X3_blame l (d + 0) hvx 2 (by rw [show (2 : Int32).toInt = 2 from (ti_c (v := 2) (a := 2) (by decide))]; omega) (by rw [show (2 : Int32).toInt = 2 from (ti_c (v := 2) (a := 2) (by decide))]; omega) l1 (by rw [show (l1 : Int32).toInt = l1.toInt from (ti_rfl l1)]; omega) (by rw [show (l1 : Int32).toInt = l1.toInt from (ti_rfl l1)]; omega)) mL_X3_101 iM_X3_blame sM_X3_blame (hvx.sh rfl) rfl rfl rfl (Nat.le_of_ble_eq_true rfl) (show d + 0 + 1 + 1 ≤ d + 2 by omega) (show 8 + (3 + 11) + 40 * (d + 0 + 1) ≤ 40 * (d + 2) by omega) (g_c0 hvx.ln) (Nat.le_of_ble_eq_true rfl) dX3_readNumber_87 ?_
          intro r h110 hq _
          obtain ⟨rfl, hv110, f111, f112, f113, f114, pt110⟩ := hq
          have pr110 : PR h → PR h110 := fun z => pt110 (prx z)
          try rw [show (2 : Int32).toInt = 2 from (ti_c (v := 2) (a := 2) (by decide))] at f111
          try rw [show (2 : Int32).toInt = 2 from (ti_c (v := 2) (a := 2) (by decide))] at f112
          try rw [show (2 : Int32).toInt = 2 from (ti_c (v := 2) (a := 2) (by decide))] at f113
          try rw [show (2 : Int32).toInt = 2 from (ti_c (v := 2) (a := 2) (by decide))] at f114
          obtain ⟨u115, u115w⟩ : ∃ v : Int32, v = h110.2.1 34 1 := ⟨_, rfl⟩
          have u115e : (h110.2.1 34 1).toInt = u115.toInt := by rw [u115w]
          have u115l : 0 ≤ u115.toInt := by rw [u115w]; exact (hv110.2.1 34 1).1
          have u115u : u115.toInt ≤ 500 := by rw [u115w]; exact (hv110.2.1 34 1).2
          obtain ⟨u116, u116w⟩ : ∃ v : Int32, v = h110.2.1 34 2 := ⟨_, rfl⟩
          have u116e : (h110.2.1 34 2).toInt = u116.toInt := by rw [u116w]
          have u116l : 0 ≤ u116.toInt := by rw [u116w]; exact (hv110.2.1 34 2).1
          have u116u : u116.toInt ≤ 500 := by rw [u116w]; exact (hv110.2.1 34 2).2
          obtain ⟨u117, u117w⟩ : ∃ v : Int32, v = h110.2.1 34 7 := ⟨_, rfl⟩
          have u117e : (h110.2.1 34 7).toInt = u117.toInt := by rw [u117w]
          have u117l : 0 ≤ u117.toInt := by rw [u117w]; exact (hv110.2.1 34 7).1
          have u117u : u117.toInt ≤ 7 := by rw [u117w]; exact (hv110.2.1 34 7).2
          have g118 : (0 : Int) ≤ (h110.2.1 34 1).toInt := (hv110.2.1 34 1).1
          have g119 : (h110.2.1 34 1).toInt ≤ 500 := (hv110.2.1 34 1).2
          have g120 : (0 : Int) ≤ (h110.2.1 34 2).toInt := (hv110.2.1 34 2).1
          have g121 : (h110.2.1 34 2).toInt ≤ 500 := (hv110.2.1 34 2).2
          have g122 : (0 : Int) ≤ (h110.2.1 34 7).toInt := (hv110.2.1 34 7).1
          have g123 : (h110.2.1 34 7).toInt ≤ 7 := (hv110.2.1 34 7).2
          have g124 : (h110.2.1 34 1).toInt = u115.toInt := by rw [← (show u115 = h110.2.1 34 1 from u115w)] <;> exact (ti_rfl u115)
          have g125 : (h110.2.1 34 2).toInt = u116.toInt := by rw [← (show u116 = h110.2.1 34 2 from u116w)] <;> exact (ti_rfl u116)
          have g126 : (h110.2.1 34 7).toInt = u117.toInt := by rw [← (show u117 = h110.2.1 34 7 from u117w)] <;> exact (ti_rfl u117)
          exact go_lv rfl (ih.2.2.2 l2 h110 hv110 pr110 (by omega) (by omega) (by omega) (by omega) (by omega) (by omega) (by omega) (by omega) (by omega))
      ·
        intro l2 hx hvx prx t0 t1 y0l y0u y1l y1u y2l y2u hm
        obtain ⟨u34_1, u34_1w⟩ : ∃ v : Int32, v = hx.2.1 34 1 := ⟨_, rfl⟩
        have u34_1e : (hx.2.1 34 1).toInt = u34_1.toInt := by rw [u34_1w]
        have u34_1l : 0 ≤ u34_1.toInt := by rw [u34_1w]; exact (hvx.2.1 34 1).1
        have u34_1u : u34_1.toInt ≤ 500 := by rw [u34_1w]; exact (hvx.2.1 34 1).2
        obtain ⟨u34_7, u34_7w⟩ : ∃ v : Int32, v = hx.2.1 34 7 := ⟨_, rfl⟩
        have u34_7e : (hx.2.1 34 7).toInt = u34_7.toInt := by rw [u34_7w]
        have u34_7l : 0 ≤ u34_7.toInt := by rw [u34_7w]; exact (hvx.2.1 34 7).1
        have u34_7u : u34_7.toInt ≤ 7 := by rw [u34_7w]; exact (hvx.2.1 34 7).2
        refine go_iload_n (pc := 90) rfl dX3_readNumber_90 ?_
        have g127 : (0 : Int) ≤ (hx.2.1 34 1).toInt := (hvx.2.1 34 1).1
        have g128 : (hx.2.1 34 1).toInt ≤ 500 := (hvx.2.1 34 1).2
        have g129 : (0 : Int) ≤ (hx.2.1 34 2).toInt := (hvx.2.1 34 2).1
        have g130 : (hx.2.1 34 2).toInt ≤ 500 := (hvx.2.1 34 2).2
        have g131 : (0 : Int) ≤ (hx.2.1 34 7).toInt := (hvx.2.1 34 7).1
        have g132 : (hx.2.1 34 7).toInt ≤ 7 := (hvx.2.1 34 7).2
        have g133 : (hx.2.1 34 1).toInt = u34_1.toInt := by rw [← (show u34_1 = hx.2.1 34 1 from u34_1w)] <;> exact (ti_rfl u34_1)
        have g134 : (hx.2.1 34 7).toInt = u34_7.toInt := by rw [← (show u34_7 = hx.2.1 34 7 from u34_7w)] <;> exact (ti_rfl u34_7)
        exact gi_iret (pc := 91) (ti_rfl l2) ⟨_, rfl, (ti_lo _), (ti_hi _), hvx, (by omega), (by omega), prx⟩ hvx dX3_readNumber_91
  obtain ⟨u34_1, u34_1w⟩ : ∃ v : Int32, v = h.2.1 34 1 := ⟨_, rfl⟩
  have u34_1e : (h.2.1 34 1).toInt = u34_1.toInt := by rw [u34_1w]
  have u34_1l : 0 ≤ u34_1.toInt := by rw [u34_1w]; exact (hv.2.1 34 1).1
  have u34_1u : u34_1.toInt ≤ 500 := by rw [u34_1w]; exact (hv.2.1 34 1).2
  obtain ⟨u34_7, u34_7w⟩ : ∃ v : Int32, v = h.2.1 34 7 := ⟨_, rfl⟩
  have u34_7e : (h.2.1 34 7).toInt = u34_7.toInt := by rw [u34_7w]
  have u34_7l : 0 ≤ u34_7.toInt := by rw [u34_7w]; exact (hv.2.1 34 7).1
  have u34_7u : u34_7.toInt ≤ 7 := by rw [u34_7w]; exact (hv.2.1 34 7).2
  refine go_aload_n (pc := 0) rfl dX3_readNumber_0 ?_
  refine gi_get (pc := 1) (lo := 0) (hi := 500) hv fL_X3_19 rfl (Nat.le_of_ble_eq_true rfl) rfl rfl dX3_readNumber_1 (fun v135 v135l v135u v135w => ?_)
  have g136 : (h.2.1 34 2).toInt = v135.toInt := by rw [v135w]
  refine go_istore_n (pc := 4) (Nat.le_of_ble_eq_true rfl) dX3_readNumber_4 (go_lv (lv2 := [(0, .ref 34), (1, .int v135)]) rfl ?_)
  refine go_iconst (pc := 5) (v := 0) (by decide) dX3_readNumber_5 ?_
  refine go_istore_n (pc := 6) (Nat.le_of_ble_eq_true rfl) dX3_readNumber_6 (go_lv (lv2 := [(0, .ref 34), (1, .int v135), (2, .int 0)]) rfl ?_)
  have z137 : (0 : Int32).toInt = 0 := (ti_c (v := 0) (a := 0) (by decide))
  have g138 : (0 : Int) ≤ (h.2.1 34 1).toInt := (hv.2.1 34 1).1
  have g139 : (h.2.1 34 1).toInt ≤ 500 := (hv.2.1 34 1).2
  have g140 : (0 : Int) ≤ (h.2.1 34 2).toInt := (hv.2.1 34 2).1
  have g141 : (h.2.1 34 2).toInt ≤ 500 := (hv.2.1 34 2).2
  have g142 : (0 : Int) ≤ (h.2.1 34 7).toInt := (hv.2.1 34 7).1
  have g143 : (h.2.1 34 7).toInt ≤ 7 := (hv.2.1 34 7).2
  have g144 : (h.2.1 34 1).toInt = u34_1.toInt := by rw [← (show u34_1 = h.2.1 34 1 from u34_1w)] <;> exact (ti_rfl u34_1)
  have g145 : (h.2.1 34 7).toInt = u34_7.toInt := by rw [← (show u34_7 = h.2.1 34 7 from u34_7w)] <;> exact (ti_rfl u34_7)
  have g146 : (h.2.1 34 2).toInt = v135.toInt := by rw [← (show v135 = h.2.1 34 2 from v135w)] <;> exact (ti_rfl v135)
  exact go_lv rfl ((key 2023).1 v135 0 h hv (by omega) (by omega) pr (by omega) (by omega) (by omega) (by omega) (by omega) (by omega) (by omega) (by omega) (by omega))
set_option maxHeartbeats 4000000 in
set_option maxRecDepth 100000 in
theorem s_X3_readOperand (l : Launch) (d : Nat) {P : PP} {h : HP} (hv : Iv P h)  : Mt l yX3_readOperand cX3_readOperand 3 (some .int) (d + 3) [.ref 34] h 0 0 (fun r h' => ∃ v : Int32, r = some (.int v) ∧ -2147483648 ≤ v.toInt ∧ v.toInt ≤ 2147483647 ∧ Iv P h' ∧ ((h'.2.1 34 1).toInt = (h.2.1 34 1).toInt) ∧ ((h'.2.1 34 7).toInt = (h.2.1 34 7).toInt) ∧ (PR h → PR h')) := by
  refine Mt_iv hv (by decide) (Nat.le_of_ble_eq_true rfl) ?_
  show Go l RX3 cX3_readOperand 3 (g_rm (d + 3) 0 0) "readOperand" (some .int) 117 0 0 (fun _ _ => True) (fun r h' => ∃ v : Int32, r = some (.int v) ∧ -2147483648 ≤ v.toInt ∧ v.toInt ≤ 2147483647 ∧ Iv P h' ∧ ((h'.2.1 34 1).toInt = (h.2.1 34 1).toInt) ∧ ((h'.2.1 34 7).toInt = (h.2.1 34 7).toInt) ∧ (PR h → PR h')) 0 0 [(0, .ref 34)] [] h
  have pr : PR h → PR h := id
  have key : ∀ n : Nat, (∀ (l2 : Int32) (hx : HP), Iv P hx → -1 ≤ l2.toInt → l2.toInt ≤ 9 → (PR h → PR hx) → (hx.2.1 34 1).toInt = (h.2.1 34 1).toInt → (hx.2.1 34 7).toInt = (h.2.1 34 7).toInt → (0 : Int) ≤ (hx.2.1 34 1).toInt → (hx.2.1 34 1).toInt ≤ 500 → (0 : Int) ≤ (hx.2.1 34 2).toInt → (hx.2.1 34 2).toInt ≤ 500 → (0 : Int) ≤ (hx.2.1 34 7).toInt → (hx.2.1 34 7).toInt ≤ 7 → (1 : Int) < n → Go l RX3 cX3_readOperand 3 (g_rm (d + 3) 0 0) "readOperand" (some .int) 117 0 0 (fun _ _ => True) (fun r h' => ∃ v : Int32, r = some (.int v) ∧ -2147483648 ≤ v.toInt ∧ v.toInt ≤ 2147483647 ∧ Iv P h' ∧ ((h'.2.1 34 1).toInt = (h.2.1 34 1).toInt) ∧ ((h'.2.1 34 7).toInt = (h.2.1 34 7).toInt) ∧ (PR h → PR h')) 0 52 [(2, .int l2)] [] hx) := by
    intro n
    induction n with
    | zero => exact (by intros; omega)
    | succ n ih =>
      refine ?_
      ·
        intro l2 hx hvx l2l l2u prx t0 t1 y0l y0u y1l y1u y2l y2u hm
        obtain ⟨u34_1, u34_1w⟩ : ∃ v : Int32, v = hx.2.1 34 1 := ⟨_, rfl⟩
        have u34_1e : (hx.2.1 34 1).toInt = u34_1.toInt := by rw [u34_1w]
        have u34_1l : 0 ≤ u34_1.toInt := by rw [u34_1w]; exact (hvx.2.1 34 1).1
        have u34_1u : u34_1.toInt ≤ 500 := by rw [u34_1w]; exact (hvx.2.1 34 1).2
        obtain ⟨u34_7, u34_7w⟩ : ∃ v : Int32, v = hx.2.1 34 7 := ⟨_, rfl⟩
        have u34_7e : (hx.2.1 34 7).toInt = u34_7.toInt := by rw [u34_7w]
        have u34_7l : 0 ≤ u34_7.toInt := by rw [u34_7w]; exact (hvx.2.1 34 7).1
        have u34_7u : u34_7.toInt ≤ 7 := by rw [u34_7w]; exact (hvx.2.1 34 7).2
        refine go_iload_n (pc := 52) rfl dX3_readOperand_52 ?_
        have g1 : (0 : Int) ≤ (hx.2.1 34 1).toInt := (hvx.2.1 34 1).1
        have g2 : (hx.2.1 34 1).toInt ≤ 500 := (hvx.2.1 34 1).2
        have g3 : (0 : Int) ≤ (hx.2.1 34 2).toInt := (hvx.2.1 34 2).1
        have g4 : (hx.2.1 34 2).toInt ≤ 500 := (hvx.2.1 34 2).2
        have g5 : (0 : Int) ≤ (hx.2.1 34 7).toInt := (hvx.2.1 34 7).1
        have g6 : (hx.2.1 34 7).toInt ≤ 7 := (hvx.2.1 34 7).2
        have g7 : (hx.2.1 34 1).toInt = u34_1.toInt := by rw [← (show u34_1 = hx.2.1 34 1 from u34_1w)] <;> exact (ti_rfl u34_1)
        have g8 : (hx.2.1 34 7).toInt = u34_7.toInt := by rw [← (show u34_7 = hx.2.1 34 7 from u34_7w)] <;> exact (ti_rfl u34_7)
        exact gi_iret (pc := 53) (ti_rfl l2) ⟨_, rfl, (ti_lo _), (ti_hi _), hvx, (by omega), (by omega), prx⟩ hvx dX3_readOperand_53
  obtain ⟨u34_1, u34_1w⟩ : ∃ v : Int32, v = h.2.1 34 1 := ⟨_, rfl⟩
  have u34_1e : (h.2.1 34 1).toInt = u34_1.toInt := by rw [u34_1w]
  have u34_1l : 0 ≤ u34_1.toInt := by rw [u34_1w]; exact (hv.2.1 34 1).1
  have u34_1u : u34_1.toInt ≤ 500 := by rw [u34_1w]; exact (hv.2.1 34 1).2
  obtain ⟨u34_7, u34_7w⟩ : ∃ v : Int32, v = h.2.1 34 7 := ⟨_, rfl⟩
  have u34_7e : (h.2.1 34 7).toInt = u34_7.toInt := by rw [u34_7w]
  have u34_7l : 0 ≤ u34_7.toInt := by rw [u34_7w]; exact (hv.2.1 34 7).1
  have u34_7u : u34_7.toInt ≤ 7 := by rw [u34_7w]; exact (hv.2.1 34 7).2
  refine go_aload_n (pc := 0) rfl dX3_readOperand_0 ?_
  have g9 : (0 : Int) ≤ (h.2.1 34 1).toInt := (hv.2.1 34 1).1
  have g10 : (h.2.1 34 1).toInt ≤ 500 := (hv.2.1 34 1).2
  have g11 : (0 : Int) ≤ (h.2.1 34 2).toInt := (hv.2.1 34 2).1
  have g12 : (h.2.1 34 2).toInt ≤ 500 := (hv.2.1 34 2).2
  have g13 : (0 : Int) ≤ (h.2.1 34 7).toInt := (hv.2.1 34 7).1
  have g14 : (h.2.1 34 7).toInt ≤ 7 := (hv.2.1 34 7).2
  have g15 : (h.2.1 34 1).toInt = u34_1.toInt := by rw [← (show u34_1 = h.2.1 34 1 from u34_1w)] <;> exact (ti_rfl u34_1)
  have g16 : (h.2.1 34 7).toInt = u34_7.toInt := by rw [← (show u34_7 = h.2.1 34 7 from u34_7w)] <;> exact (ti_rfl u34_7)
  refine go_invV (pc := 1) (sl := 0) (s_X3_look l (d + 1) hv ) mL_X3_66 iM_X3_look sM_X3_look (hv.sh rfl) rfl rfl rfl (Nat.le_of_ble_eq_true rfl) (show d + 1 + 1 + 1 ≤ d + 3 by omega) (show 8 + (1 + 11) + 40 * (d + 1 + 1) ≤ 40 * (d + 3) by omega) (g_c0 hv.ln) (Nat.le_of_ble_eq_true rfl) dX3_readOperand_1 ?_
  intro r h17 hq _
  obtain ⟨v21, rfl, v21l, v21u, hv17, f18, f19, f20, pt17⟩ := hq
  have pr17 : PR h → PR h17 := fun z => pt17 (pr z)
  obtain ⟨u22, u22w⟩ : ∃ v : Int32, v = h17.2.1 34 1 := ⟨_, rfl⟩
  have u22e : (h17.2.1 34 1).toInt = u22.toInt := by rw [u22w]
  have u22l : 0 ≤ u22.toInt := by rw [u22w]; exact (hv17.2.1 34 1).1
  have u22u : u22.toInt ≤ 500 := by rw [u22w]; exact (hv17.2.1 34 1).2
  obtain ⟨u23, u23w⟩ : ∃ v : Int32, v = h17.2.1 34 2 := ⟨_, rfl⟩
  have u23e : (h17.2.1 34 2).toInt = u23.toInt := by rw [u23w]
  have u23l : 0 ≤ u23.toInt := by rw [u23w]; exact (hv17.2.1 34 2).1
  have u23u : u23.toInt ≤ 500 := by rw [u23w]; exact (hv17.2.1 34 2).2
  obtain ⟨u24, u24w⟩ : ∃ v : Int32, v = h17.2.1 34 7 := ⟨_, rfl⟩
  have u24e : (h17.2.1 34 7).toInt = u24.toInt := by rw [u24w]
  have u24l : 0 ≤ u24.toInt := by rw [u24w]; exact (hv17.2.1 34 7).1
  have u24u : u24.toInt ≤ 7 := by rw [u24w]; exact (hv17.2.1 34 7).2
  refine go_istore_n (pc := 4) (Nat.le_of_ble_eq_true rfl) dX3_readOperand_4 (go_lv (lv2 := [(0, .ref 34), (1, .int v21)]) rfl ?_)
  refine go_iload_n (pc := 5) rfl dX3_readOperand_5 ?_
  refine go_invS (pc := 6) (sl := 0) (s_X3_isDigit l (d + 1) hv17 v21) mL_X3_210 iM_X3_isDigit rfl rfl (Nat.le_of_ble_eq_true rfl) (show d + 1 + 1 + 1 ≤ d + 3 by omega) (show 8 + (1 + 11) + 40 * (d + 1 + 1) ≤ 40 * (d + 3) by omega) (g_c0 hv17.ln) (Nat.le_of_ble_eq_true rfl) dX3_readOperand_6 ?_
  intro r h25 hq _
  obtain ⟨v26, rfl, v26l, v26u, rfl⟩ := hq
  refine gf_if_eq (pc := 9) (tgt := 20) (ti_rfl v26) (by decide) dX3_readOperand_9 (fun q27 => ?_) (fun q27 => ?_)
  ·
    refine go_iload_n (pc := 20) rfl dX3_readOperand_20 ?_
    refine go_invS (pc := 21) (sl := 0) (s_X3_nameOf l (d + 1) hv17 v21) mL_X3_137 iM_X3_nameOf rfl rfl (Nat.le_of_ble_eq_true rfl) (show d + 1 + 1 + 1 ≤ d + 3 by omega) (show 8 + (1 + 11) + 40 * (d + 1 + 1) ≤ 40 * (d + 3) by omega) (g_c0 hv17.ln) (Nat.le_of_ble_eq_true rfl) dX3_readOperand_21 ?_
    intro r h28 hq _
    obtain ⟨v30, rfl, v30l, v30u, rfl, f29⟩ := hq
    refine go_istore_n (pc := 24) (Nat.le_of_ble_eq_true rfl) dX3_readOperand_24 (go_lv (lv2 := [(0, .ref 34), (1, .int v21), (2, .int v30)]) rfl ?_)
    refine go_iload_n (pc := 25) rfl dX3_readOperand_25 ?_
    refine go_iconst (pc := 26) (v := (-1)) (by decide) dX3_readOperand_26 ?_
    refine gf_icmp_ne (pc := 27) (tgt := 42) (ti_rfl v30) (ti_c (v := (-1)) (a := (-1)) (by decide)) (by decide) dX3_readOperand_27 (fun q31 => ?_) (fun q31 => ?_)
    ·
      refine go_aload_n (pc := 42) rfl dX3_readOperand_42 ?_
      refine go_dup (pc := 43) rfl dX3_readOperand_43 ?_
      refine gi_get (pc := 44) (lo := 0) (hi := 500) hv17 fL_X3_19 rfl (Nat.le_of_ble_eq_true rfl) rfl rfl dX3_readOperand_44 (fun v32 v32l v32u v32w => ?_)
      have v32r : u23 = h17.2.1 34 2 := u23w
      have v32q : TI v32 u23.toInt := by rw [v32w.trans v32r.symm]; exact (ti_rfl u23)
      refine go_iconst (pc := 47) (v := 1) (by decide) dX3_readOperand_47 ?_
      refine gf_iadd (pc := 48) v32q (ti_c (v := 1) (a := 1) (by decide)) (by omega) (by omega) dX3_readOperand_48 (fun v33 e34 => ?_)
      refine gi_put (pc := 49) (lo := 0) (hi := 500) hv17 e34 (fP_X3_19 _) rfl (Nat.le_of_ble_eq_true rfl) rfl rfl (by omega) (by omega) rfl rfl (by decide) (by decide) (by decide) (by decide) dX3_readOperand_49 (fun h35 hv35 hv35e => ?_)
      have pr35 : PR h → PR h35 := fun z => by rw [hv35e]; exact PR.put hv17 (pr17 z) (by omega)
      have g36 : (0 : Int) ≤ (h35.2.1 34 1).toInt := (hv35.2.1 34 1).1
      have g37 : (h35.2.1 34 1).toInt ≤ 500 := (hv35.2.1 34 1).2
      have g38 : (0 : Int) ≤ (h35.2.1 34 2).toInt := (hv35.2.1 34 2).1
      have g39 : (h35.2.1 34 2).toInt ≤ 500 := (hv35.2.1 34 2).2
      have g40 : (0 : Int) ≤ (h35.2.1 34 7).toInt := (hv35.2.1 34 7).1
      have g41 : (h35.2.1 34 7).toInt ≤ 7 := (hv35.2.1 34 7).2
      have g42 : (h35.2.1 34 1).toInt = u22.toInt := by rw [← (show u22 = h35.2.1 34 1 from (show u22 = h35.2.1 34 1 from by rw [hv35e]; exact (g_iI rfl u22w.symm).symm))] <;> exact (ti_rfl u22)
      have g43 : (h35.2.1 34 7).toInt = u24.toInt := by rw [← (show u24 = h35.2.1 34 7 from (show u24 = h35.2.1 34 7 from by rw [hv35e]; exact (g_iI rfl u24w.symm).symm))] <;> exact (ti_rfl u24)
      have g44 : (h35.2.1 34 2).toInt = (u23.toInt + 1) := by rw [← (show v33 = h35.2.1 34 2 from (show v33 = h35.2.1 34 2 from by rw [hv35e]; exact g_iS.symm))] <;> exact e34
      exact go_lv rfl ((key 14) v30 h35 hv35 (by omega) (by omega) pr35 (by omega) (by omega) (by omega) (by omega) (by omega) (by omega) (by omega) (by omega) (by omega))
    ·
      refine go_aload_n (pc := 30) rfl dX3_readOperand_30 ?_
      refine go_iconst (pc := 31) (v := 1) (by decide) dX3_readOperand_31 ?_
      refine go_aload_n (pc := 32) rfl dX3_readOperand_32 ?_
      refine gi_get (pc := 33) (lo := 0) (hi := 500) hv17 fL_X3_19 rfl (Nat.le_of_ble_eq_true rfl) rfl rfl dX3_readOperand_33 (fun v45 v45l v45u v45w => ?_)
      have v45r : u23 = h17.2.1 34 2 := u23w
      have v45q : TI v45 u23.toInt := by rw [v45w.trans v45r.symm]; exact (ti_rfl u23)
      have g46 : (0 : Int) ≤ (h17.2.1 34 1).toInt := (hv17.2.1 34 1).1
      have g47 : (h17.2.1 34 1).toInt ≤ 500 := (hv17.2.1 34 1).2
      have g48 : (0 : Int) ≤ (h17.2.1 34 2).toInt := (hv17.2.1 34 2).1
      have g49 : (h17.2.1 34 2).toInt ≤ 500 := (hv17.2.1 34 2).2
      have g50 : (0 : Int) ≤ (h17.2.1 34 7).toInt := (hv17.2.1 34 7).1
      have g51 : (h17.2.1 34 7).toInt ≤ 7 := (hv17.2.1 34 7).2
      have g52 : (h17.2.1 34 1).toInt = u22.toInt := by rw [← (show u22 = h17.2.1 34 1 from u22w)] <;> exact (ti_rfl u22)
      have g53 : (h17.2.1 34 2).toInt = u23.toInt := by rw [← (show u23 = h17.2.1 34 2 from u23w)] <;> exact (ti_rfl u23)
      have g54 : (h17.2.1 34 7).toInt = u24.toInt := by rw [← (show u24 = h17.2.1 34 7 from u24w)] <;> exact (ti_rfl u24)
      refine go_invV (pc := 36) (sl := 0) (s_X3_blame l (d + 1) hv17 1 (by rw [show (1 : Int32).toInt = 1 from (ti_c (v := 1) (a := 1) (by decide))]; omega) (by rw [show (1 : Int32).toInt = 1 from (ti_c (v := 1) (a := 1) (by decide))]; omega) v45 (by rw [show (v45 : Int32).toInt = u23.toInt from v45q]; omega) (by rw [show (v45 : Int32).toInt = u23.toInt from v45q]; omega)) mL_X3_101 iM_X3_blame sM_X3_blame (hv17.sh rfl) rfl rfl rfl (Nat.le_of_ble_eq_true rfl) (show d + 1 + 1 + 1 ≤ d + 3 by omega) (show 8 + (3 + 11) + 40 * (d + 1 + 1) ≤ 40 * (d + 3) by omega) (g_c0 hv17.ln) (Nat.le_of_ble_eq_true rfl) dX3_readOperand_36 ?_
      intro r h55 hq _
      obtain ⟨rfl, hv55, f56, f57, f58, f59, pt55⟩ := hq
      have pr55 : PR h → PR h55 := fun z => pt55 (pr17 z)
      try rw [show (1 : Int32).toInt = 1 from (ti_c (v := 1) (a := 1) (by decide))] at f56
      try rw [show (v45 : Int32).toInt = u23.toInt from v45q] at f56
      try rw [show (1 : Int32).toInt = 1 from (ti_c (v := 1) (a := 1) (by decide))] at f57
      try rw [show (v45 : Int32).toInt = u23.toInt from v45q] at f57
      try rw [show (1 : Int32).toInt = 1 from (ti_c (v := 1) (a := 1) (by decide))] at f58
      try rw [show (v45 : Int32).toInt = u23.toInt from v45q] at f58
      try rw [show (1 : Int32).toInt = 1 from (ti_c (v := 1) (a := 1) (by decide))] at f59
      try rw [show (v45 : Int32).toInt = u23.toInt from v45q] at f59
      obtain ⟨u60, u60w⟩ : ∃ v : Int32, v = h55.2.1 34 1 := ⟨_, rfl⟩
      have u60e : (h55.2.1 34 1).toInt = u60.toInt := by rw [u60w]
      have u60l : 0 ≤ u60.toInt := by rw [u60w]; exact (hv55.2.1 34 1).1
      have u60u : u60.toInt ≤ 500 := by rw [u60w]; exact (hv55.2.1 34 1).2
      obtain ⟨u61, u61w⟩ : ∃ v : Int32, v = h55.2.1 34 2 := ⟨_, rfl⟩
      have u61e : (h55.2.1 34 2).toInt = u61.toInt := by rw [u61w]
      have u61l : 0 ≤ u61.toInt := by rw [u61w]; exact (hv55.2.1 34 2).1
      have u61u : u61.toInt ≤ 500 := by rw [u61w]; exact (hv55.2.1 34 2).2
      obtain ⟨u62, u62w⟩ : ∃ v : Int32, v = h55.2.1 34 7 := ⟨_, rfl⟩
      have u62e : (h55.2.1 34 7).toInt = u62.toInt := by rw [u62w]
      have u62l : 0 ≤ u62.toInt := by rw [u62w]; exact (hv55.2.1 34 7).1
      have u62u : u62.toInt ≤ 7 := by rw [u62w]; exact (hv55.2.1 34 7).2
      refine go_goto (pc := 39) (tgt := 52) (by decide) dX3_readOperand_39 ?_
      have g63 : (0 : Int) ≤ (h55.2.1 34 1).toInt := (hv55.2.1 34 1).1
      have g64 : (h55.2.1 34 1).toInt ≤ 500 := (hv55.2.1 34 1).2
      have g65 : (0 : Int) ≤ (h55.2.1 34 2).toInt := (hv55.2.1 34 2).1
      have g66 : (h55.2.1 34 2).toInt ≤ 500 := (hv55.2.1 34 2).2
      have g67 : (0 : Int) ≤ (h55.2.1 34 7).toInt := (hv55.2.1 34 7).1
      have g68 : (h55.2.1 34 7).toInt ≤ 7 := (hv55.2.1 34 7).2
      have g69 : (h55.2.1 34 1).toInt = u60.toInt := by rw [← (show u60 = h55.2.1 34 1 from u60w)] <;> exact (ti_rfl u60)
      have g70 : (h55.2.1 34 2).toInt = u61.toInt := by rw [← (show u61 = h55.2.1 34 2 from u61w)] <;> exact (ti_rfl u61)
      have g71 : (h55.2.1 34 7).toInt = u62.toInt := by rw [← (show u62 = h55.2.1 34 7 from u62w)] <;> exact (ti_rfl u62)
      exact go_lv rfl ((key 14) v30 h55 hv55 (by omega) (by omega) pr55 (by omega) (by omega) (by omega) (by omega) (by omega) (by omega) (by omega) (by omega) (by omega))
  ·
    refine go_bipush (pc := 12) (v := 10) (by decide) dX3_readOperand_12 ?_
    refine go_aload_n (pc := 14) rfl dX3_readOperand_14 ?_
    have g72 : (0 : Int) ≤ (h17.2.1 34 1).toInt := (hv17.2.1 34 1).1
    have g73 : (h17.2.1 34 1).toInt ≤ 500 := (hv17.2.1 34 1).2
    have g74 : (0 : Int) ≤ (h17.2.1 34 2).toInt := (hv17.2.1 34 2).1
    have g75 : (h17.2.1 34 2).toInt ≤ 500 := (hv17.2.1 34 2).2
    have g76 : (0 : Int) ≤ (h17.2.1 34 7).toInt := (hv17.2.1 34 7).1
    have g77 : (h17.2.1 34 7).toInt ≤ 7 := (hv17.2.1 34 7).2
    have g78 : (h17.2.1 34 1).toInt = u22.toInt := by rw [← (show u22 = h17.2.1 34 1 from u22w)] <;> exact (ti_rfl u22)
    have g79 : (h17.2.1 34 2).toInt = u23.toInt := by rw [← (show u23 = h17.2.1 34 2 from u23w)] <;> exact (ti_rfl u23)
    have g80 : (h17.2.1 34 7).toInt = u24.toInt := by rw [← (show u24 = h17.2.1 34 7 from u24w)] <;> exact (ti_rfl u24)
    refine go_invV (pc := 15) (sl := 0) (s_X3_readNumber l (d + 0) hv17 ) mL_X3_213 iM_X3_readNumber sM_X3_readNumber (hv17.sh rfl) rfl rfl rfl (Nat.le_of_ble_eq_true rfl) (show d + 0 + 2 + 1 ≤ d + 3 by omega) (show 8 + (3 + 11) + 40 * (d + 0 + 2) ≤ 40 * (d + 3) by omega) (g_c0 hv17.ln) (Nat.le_of_ble_eq_true rfl) dX3_readOperand_15 ?_
    intro r h81 hq _
    obtain ⟨v84, rfl, v84l, v84u, hv81, f82, f83, pt81⟩ := hq
    have pr81 : PR h → PR h81 := fun z => pt81 (pr17 z)
    obtain ⟨u85, u85w⟩ : ∃ v : Int32, v = h81.2.1 34 1 := ⟨_, rfl⟩
    have u85e : (h81.2.1 34 1).toInt = u85.toInt := by rw [u85w]
    have u85l : 0 ≤ u85.toInt := by rw [u85w]; exact (hv81.2.1 34 1).1
    have u85u : u85.toInt ≤ 500 := by rw [u85w]; exact (hv81.2.1 34 1).2
    obtain ⟨u86, u86w⟩ : ∃ v : Int32, v = h81.2.1 34 2 := ⟨_, rfl⟩
    have u86e : (h81.2.1 34 2).toInt = u86.toInt := by rw [u86w]
    have u86l : 0 ≤ u86.toInt := by rw [u86w]; exact (hv81.2.1 34 2).1
    have u86u : u86.toInt ≤ 500 := by rw [u86w]; exact (hv81.2.1 34 2).2
    obtain ⟨u87, u87w⟩ : ∃ v : Int32, v = h81.2.1 34 7 := ⟨_, rfl⟩
    have u87e : (h81.2.1 34 7).toInt = u87.toInt := by rw [u87w]
    have u87l : 0 ≤ u87.toInt := by rw [u87w]; exact (hv81.2.1 34 7).1
    have u87u : u87.toInt ≤ 7 := by rw [u87w]; exact (hv81.2.1 34 7).2
    refine gu_iadd (pc := 18) dX3_readOperand_18 (fun v88 => ?_)
    have g89 : (0 : Int) ≤ (h81.2.1 34 1).toInt := (hv81.2.1 34 1).1
    have g90 : (h81.2.1 34 1).toInt ≤ 500 := (hv81.2.1 34 1).2
    have g91 : (0 : Int) ≤ (h81.2.1 34 2).toInt := (hv81.2.1 34 2).1
    have g92 : (h81.2.1 34 2).toInt ≤ 500 := (hv81.2.1 34 2).2
    have g93 : (0 : Int) ≤ (h81.2.1 34 7).toInt := (hv81.2.1 34 7).1
    have g94 : (h81.2.1 34 7).toInt ≤ 7 := (hv81.2.1 34 7).2
    have g95 : (h81.2.1 34 1).toInt = u85.toInt := by rw [← (show u85 = h81.2.1 34 1 from u85w)] <;> exact (ti_rfl u85)
    have g96 : (h81.2.1 34 2).toInt = u86.toInt := by rw [← (show u86 = h81.2.1 34 2 from u86w)] <;> exact (ti_rfl u86)
    have g97 : (h81.2.1 34 7).toInt = u87.toInt := by rw [← (show u87 = h81.2.1 34 7 from u87w)] <;> exact (ti_rfl u87)
    exact gi_iret (pc := 19) (ti_rfl v88) ⟨_, rfl, (ti_lo _), (ti_hi _), hv81, (by omega), (by omega), pr81⟩ hv81 dX3_readOperand_19
set_option maxHeartbeats 4000000 in
set_option maxRecDepth 100000 in
theorem s_X5_add (l : Launch) (d : Nat) {P : PP} {h : HP} (hv : Iv P h) (a2 : Int32) (a2l : -1 ≤ a2.toInt) (a2u : a2.toInt ≤ 39) : Mt l yX5_add cX5_add 3 (some .int) (d + 1) [.ref 36, .int a2] h 0 0 (fun r h' => ∃ v : Int32, r = some (.int v) ∧ -1 ≤ v.toInt ∧ v.toInt ≤ 127 ∧ Iv P h' ∧ ((h'.2.1 34 2).toInt = (h.2.1 34 2).toInt) ∧ ((h'.2.1 34 1).toInt = (h.2.1 34 1).toInt) ∧ ((h'.2.1 34 7).toInt = (h.2.1 34 7).toInt) ∧ (PR h → PR h')) := by
  refine Mt_iv hv (by decide) (Nat.le_of_ble_eq_true rfl) ?_
  show Go l RX5 cX5_add 3 (g_rm (d + 1) 0 0) "add" (some .int) 117 0 0 (fun _ _ => True) (fun r h' => ∃ v : Int32, r = some (.int v) ∧ -1 ≤ v.toInt ∧ v.toInt ≤ 127 ∧ Iv P h' ∧ ((h'.2.1 34 2).toInt = (h.2.1 34 2).toInt) ∧ ((h'.2.1 34 1).toInt = (h.2.1 34 1).toInt) ∧ ((h'.2.1 34 7).toInt = (h.2.1 34 7).toInt) ∧ (PR h → PR h')) 0 0 [(0, .ref 36), (1, .int a2)] [] h
  have pr : PR h → PR h := id
  obtain ⟨u34_2, u34_2w⟩ : ∃ v : Int32, v = h.2.1 34 2 := ⟨_, rfl⟩
  have u34_2e : (h.2.1 34 2).toInt = u34_2.toInt := by rw [u34_2w]
  have u34_2l : 0 ≤ u34_2.toInt := by rw [u34_2w]; exact (hv.2.1 34 2).1
  have u34_2u : u34_2.toInt ≤ 500 := by rw [u34_2w]; exact (hv.2.1 34 2).2
  obtain ⟨u34_1, u34_1w⟩ : ∃ v : Int32, v = h.2.1 34 1 := ⟨_, rfl⟩
  have u34_1e : (h.2.1 34 1).toInt = u34_1.toInt := by rw [u34_1w]
  have u34_1l : 0 ≤ u34_1.toInt := by rw [u34_1w]; exact (hv.2.1 34 1).1
  have u34_1u : u34_1.toInt ≤ 500 := by rw [u34_1w]; exact (hv.2.1 34 1).2
  obtain ⟨u34_7, u34_7w⟩ : ∃ v : Int32, v = h.2.1 34 7 := ⟨_, rfl⟩
  have u34_7e : (h.2.1 34 7).toInt = u34_7.toInt := by rw [u34_7w]
  have u34_7l : 0 ≤ u34_7.toInt := by rw [u34_7w]; exact (hv.2.1 34 7).1
  have u34_7u : u34_7.toInt ≤ 7 := by rw [u34_7w]; exact (hv.2.1 34 7).2
  refine go_aload_n (pc := 0) rfl dX5_add_0 ?_
  refine gi_get (pc := 1) (lo := 0) (hi := 128) hv fL_X5_9 rfl (Nat.le_of_ble_eq_true rfl) rfl rfl dX5_add_1 (fun v1 v1l v1u v1w => ?_)
  refine go_sipush (pc := 4) (v := 128) (by decide) dX5_add_4 ?_
  refine gf_icmp_lt (pc := 7) (tgt := 12) (ti_rfl v1) (ti_c (v := 128) (a := 128) (by decide)) (by decide) dX5_add_7 (fun q2 => ?_) (fun q2 => ?_)
  ·
    refine go_aload_n (pc := 12) rfl dX5_add_12 ?_
    refine gi_get (pc := 13) (lo := 0) (hi := 128) hv fL_X5_9 rfl (Nat.le_of_ble_eq_true rfl) rfl rfl dX5_add_13 (fun v3 v3l v3u v3w => ?_)
    have v3r : v1 = h.2.1 36 0 := v1w
    have v3q : TI v3 v1.toInt := by rw [v3w.trans v3r.symm]; exact (ti_rfl v1)
    refine go_istore_n (pc := 16) (Nat.le_of_ble_eq_true rfl) dX5_add_16 (go_lv (lv2 := [(0, .ref 36), (1, .int a2), (2, .int v3)]) rfl ?_)
    refine go_aload_n (pc := 17) rfl dX5_add_17 ?_
    refine go_dup (pc := 18) rfl dX5_add_18 ?_
    refine gi_get (pc := 19) (lo := 0) (hi := 128) hv fL_X5_9 rfl (Nat.le_of_ble_eq_true rfl) rfl rfl dX5_add_19 (fun v4 v4l v4u v4w => ?_)
    have v4r : v1 = h.2.1 36 0 := v1w
    have v4q : TI v4 v1.toInt := by rw [v4w.trans v4r.symm]; exact (ti_rfl v1)
    refine go_iconst (pc := 22) (v := 1) (by decide) dX5_add_22 ?_
    refine gf_iadd (pc := 23) v4q (ti_c (v := 1) (a := 1) (by decide)) (by omega) (by omega) dX5_add_23 (fun v5 e6 => ?_)
    refine gi_put (pc := 24) (lo := 0) (hi := 128) hv e6 (fP_X5_9 _) rfl (Nat.le_of_ble_eq_true rfl) rfl rfl (by omega) (by omega) rfl rfl (by decide) (by decide) (by decide) (by decide) dX5_add_24 (fun h7 hv7 hv7e => ?_)
    have pr7 : PR h → PR h7 := fun z => by rw [hv7e]; exact PR.put hv (pr z) (by omega)
    refine go_aload_n (pc := 27) rfl dX5_add_27 ?_
    refine gi_getF (pc := 28) (q := 37) hv7 fL_X5_15 rfl (Nat.le_of_ble_eq_true rfl) rfl (hv7.rf (by decide)) dX5_add_28 ?_
    refine go_iload_n (pc := 31) rfl dX5_add_31 ?_
    refine go_iload_n (pc := 32) rfl dX5_add_32 ?_
    refine gi_iast (pc := 33) (lo := -1) (hi := 39) (len := 128) hv7 v3q (ti_rfl a2) rfl (by omega) (by omega) (fun _ => rfl) (by omega) (by omega) (by decide) dX5_add_33 (fun h8 hv8 hv8e => ?_)
    have pr8 : PR h → PR h8 := fun z => by rw [hv8e]; exact PR.put hv7 (pr7 z) (by omega)
    refine go_aload_n (pc := 34) rfl dX5_add_34 ?_
    refine gi_getF (pc := 35) (q := 38) hv8 fL_X5_19 rfl (Nat.le_of_ble_eq_true rfl) rfl (hv8.rf (by decide)) dX5_add_35 ?_
    refine go_iload_n (pc := 38) rfl dX5_add_38 ?_
    refine go_iconst (pc := 39) (v := (-1)) (by decide) dX5_add_39 ?_
    refine gi_iast (pc := 40) (lo := -1) (hi := 127) (len := 128) hv8 v3q (ti_c (v := (-1)) (a := (-1)) (by decide)) rfl (by omega) (by omega) (fun _ => rfl) (by omega) (by omega) (by decide) dX5_add_40 (fun h9 hv9 hv9e => ?_)
    have pr9 : PR h → PR h9 := fun z => by rw [hv9e]; exact PR.put hv8 (pr8 z) (by omega)
    refine go_aload_n (pc := 41) rfl dX5_add_41 ?_
    refine gi_getF (pc := 42) (q := 39) hv9 fL_X5_22 rfl (Nat.le_of_ble_eq_true rfl) rfl (hv9.rf (by decide)) dX5_add_42 ?_
    refine go_iload_n (pc := 45) rfl dX5_add_45 ?_
    refine go_iconst (pc := 46) (v := (-1)) (by decide) dX5_add_46 ?_
    refine gi_iast (pc := 47) (lo := -1) (hi := 127) (len := 128) hv9 v3q (ti_c (v := (-1)) (a := (-1)) (by decide)) rfl (by omega) (by omega) (fun _ => rfl) (by omega) (by omega) (by decide) dX5_add_47 (fun h10 hv10 hv10e => ?_)
    have pr10 : PR h → PR h10 := fun z => by rw [hv10e]; exact PR.put hv9 (pr9 z) (by omega)
    refine go_aload_n (pc := 48) rfl dX5_add_48 ?_
    refine gi_getF (pc := 49) (q := 40) hv10 fL_X5_25 rfl (Nat.le_of_ble_eq_true rfl) rfl (hv10.rf (by decide)) dX5_add_49 ?_
    refine go_iload_n (pc := 52) rfl dX5_add_52 ?_
    refine go_iconst (pc := 53) (v := (-1)) (by decide) dX5_add_53 ?_
    refine gi_iast (pc := 54) (lo := -1) (hi := 127) (len := 128) hv10 v3q (ti_c (v := (-1)) (a := (-1)) (by decide)) rfl (by omega) (by omega) (fun _ => rfl) (by omega) (by omega) (by decide) dX5_add_54 (fun h11 hv11 hv11e => ?_)
    have pr11 : PR h → PR h11 := fun z => by rw [hv11e]; exact PR.put hv10 (pr10 z) (by omega)
    refine go_aload_n (pc := 55) rfl dX5_add_55 ?_
    refine gi_getF (pc := 56) (q := 41) hv11 fL_X5_28 rfl (Nat.le_of_ble_eq_true rfl) rfl (hv11.rf (by decide)) dX5_add_56 ?_
    refine go_iload_n (pc := 59) rfl dX5_add_59 ?_
    refine go_iconst (pc := 60) (v := (-1)) (by decide) dX5_add_60 ?_
    refine gi_iast (pc := 61) (lo := -1) (hi := 5) (len := 128) hv11 v3q (ti_c (v := (-1)) (a := (-1)) (by decide)) rfl (by omega) (by omega) (fun _ => rfl) (by omega) (by omega) (by decide) dX5_add_61 (fun h12 hv12 hv12e => ?_)
    have pr12 : PR h → PR h12 := fun z => by rw [hv12e]; exact PR.put hv11 (pr11 z) (by omega)
    refine go_iload_n (pc := 62) rfl dX5_add_62 ?_
    have g13 : (0 : Int) ≤ (h12.2.1 34 1).toInt := (hv12.2.1 34 1).1
    have g14 : (h12.2.1 34 1).toInt ≤ 500 := (hv12.2.1 34 1).2
    have g15 : (0 : Int) ≤ (h12.2.1 34 2).toInt := (hv12.2.1 34 2).1
    have g16 : (h12.2.1 34 2).toInt ≤ 500 := (hv12.2.1 34 2).2
    have g17 : (0 : Int) ≤ (h12.2.1 34 7).toInt := (hv12.2.1 34 7).1
    have g18 : (h12.2.1 34 7).toInt ≤ 7 := (hv12.2.1 34 7).2
    have g19 : (h12.2.1 34 2).toInt = u34_2.toInt := by rw [← (show u34_2 = h12.2.1 34 2 from (show u34_2 = h12.2.1 34 2 from by rw [hv12e]; exact (g_iI rfl (show u34_2 = h11.2.1 34 2 from by rw [hv11e]; exact (g_iI rfl (show u34_2 = h10.2.1 34 2 from by rw [hv10e]; exact (g_iI rfl (show u34_2 = h9.2.1 34 2 from by rw [hv9e]; exact (g_iI rfl (show u34_2 = h8.2.1 34 2 from by rw [hv8e]; exact (g_iI rfl (show u34_2 = h7.2.1 34 2 from by rw [hv7e]; exact (g_iI rfl u34_2w.symm).symm).symm).symm).symm).symm).symm).symm).symm).symm).symm).symm))] <;> exact (ti_rfl u34_2)
    have g20 : (h12.2.1 34 1).toInt = u34_1.toInt := by rw [← (show u34_1 = h12.2.1 34 1 from (show u34_1 = h12.2.1 34 1 from by rw [hv12e]; exact (g_iI rfl (show u34_1 = h11.2.1 34 1 from by rw [hv11e]; exact (g_iI rfl (show u34_1 = h10.2.1 34 1 from by rw [hv10e]; exact (g_iI rfl (show u34_1 = h9.2.1 34 1 from by rw [hv9e]; exact (g_iI rfl (show u34_1 = h8.2.1 34 1 from by rw [hv8e]; exact (g_iI rfl (show u34_1 = h7.2.1 34 1 from by rw [hv7e]; exact (g_iI rfl u34_1w.symm).symm).symm).symm).symm).symm).symm).symm).symm).symm).symm).symm))] <;> exact (ti_rfl u34_1)
    have g21 : (h12.2.1 34 7).toInt = u34_7.toInt := by rw [← (show u34_7 = h12.2.1 34 7 from (show u34_7 = h12.2.1 34 7 from by rw [hv12e]; exact (g_iI rfl (show u34_7 = h11.2.1 34 7 from by rw [hv11e]; exact (g_iI rfl (show u34_7 = h10.2.1 34 7 from by rw [hv10e]; exact (g_iI rfl (show u34_7 = h9.2.1 34 7 from by rw [hv9e]; exact (g_iI rfl (show u34_7 = h8.2.1 34 7 from by rw [hv8e]; exact (g_iI rfl (show u34_7 = h7.2.1 34 7 from by rw [hv7e]; exact (g_iI rfl u34_7w.symm).symm).symm).symm).symm).symm).symm).symm).symm).symm).symm).symm))] <;> exact (ti_rfl u34_7)
    exact gi_iret (pc := 63) v3q ⟨_, rfl, (by rw [show (v3 : Int32).toInt = v1.toInt from v3q]; omega), (by rw [show (v3 : Int32).toInt = v1.toInt from v3q]; omega), hv12, (by omega), (by omega), (by omega), pr12⟩ hv12 dX5_add_63
  ·
    refine go_iconst (pc := 10) (v := (-1)) (by decide) dX5_add_10 ?_
    have g22 : (0 : Int) ≤ (h.2.1 34 1).toInt := (hv.2.1 34 1).1
    have g23 : (h.2.1 34 1).toInt ≤ 500 := (hv.2.1 34 1).2
    have g24 : (0 : Int) ≤ (h.2.1 34 2).toInt := (hv.2.1 34 2).1
    have g25 : (h.2.1 34 2).toInt ≤ 500 := (hv.2.1 34 2).2
    have g26 : (0 : Int) ≤ (h.2.1 34 7).toInt := (hv.2.1 34 7).1
    have g27 : (h.2.1 34 7).toInt ≤ 7 := (hv.2.1 34 7).2
    have g28 : (h.2.1 34 2).toInt = u34_2.toInt := by rw [← (show u34_2 = h.2.1 34 2 from u34_2w)] <;> exact (ti_rfl u34_2)
    have g29 : (h.2.1 34 1).toInt = u34_1.toInt := by rw [← (show u34_1 = h.2.1 34 1 from u34_1w)] <;> exact (ti_rfl u34_1)
    have g30 : (h.2.1 34 7).toInt = u34_7.toInt := by rw [← (show u34_7 = h.2.1 34 7 from u34_7w)] <;> exact (ti_rfl u34_7)
    exact gi_iret (pc := 11) (ti_c (v := (-1)) (a := (-1)) (by decide)) ⟨_, rfl, (by rw [show ((-1) : Int32).toInt = (-1) from (ti_c (v := (-1)) (a := (-1)) (by decide))]; omega), (by rw [show ((-1) : Int32).toInt = (-1) from (ti_c (v := (-1)) (a := (-1)) (by decide))]; omega), hv, (by omega), (by omega), (by omega), pr⟩ hv dX5_add_11
set_option maxHeartbeats 4000000 in
set_option maxRecDepth 100000 in
theorem s_X3_addItem (l : Launch) (d : Nat) {P : PP} {h : HP} (hv : Iv P h) (a2 : Int32) (a2l : -1 ≤ a2.toInt) (a2u : a2.toInt ≤ 39) (hp : 1 ≤ (h.2.1 34 7).toInt) : Mt l yX3_addItem cX3_addItem 3 (some .int) (d + 2) [.ref 34, .int a2] h 0 0 (fun r h' => ∃ v : Int32, r = some (.int v) ∧ -1 ≤ v.toInt ∧ v.toInt ≤ 127 ∧ Iv P h' ∧ ((h'.2.1 34 2).toInt = (h.2.1 34 2).toInt) ∧ ((h'.2.1 34 1).toInt = (h.2.1 34 1).toInt) ∧ ((h'.2.1 34 7).toInt = (h.2.1 34 7).toInt) ∧ (PR h → PR h')) := by
  refine Mt_iv hv (by decide) (Nat.le_of_ble_eq_true rfl) ?_
  show Go l RX3 cX3_addItem 3 (g_rm (d + 2) 0 0) "addItem" (some .int) 117 0 0 (fun _ _ => True) (fun r h' => ∃ v : Int32, r = some (.int v) ∧ -1 ≤ v.toInt ∧ v.toInt ≤ 127 ∧ Iv P h' ∧ ((h'.2.1 34 2).toInt = (h.2.1 34 2).toInt) ∧ ((h'.2.1 34 1).toInt = (h.2.1 34 1).toInt) ∧ ((h'.2.1 34 7).toInt = (h.2.1 34 7).toInt) ∧ (PR h → PR h')) 0 0 [(0, .ref 34), (1, .int a2)] [] h
  have pr : PR h → PR h := id
  have key : ∀ n : Nat, (∀ (l2 : Int32) (hx : HP), Iv P hx → -1 ≤ l2.toInt → l2.toInt ≤ 127 → (PR h → PR hx) → (hx.2.1 34 2).toInt = (h.2.1 34 2).toInt → (hx.2.1 34 1).toInt = (h.2.1 34 1).toInt → (hx.2.1 34 7).toInt = (h.2.1 34 7).toInt → (0 : Int) ≤ (hx.2.1 34 1).toInt → (hx.2.1 34 1).toInt ≤ 500 → (0 : Int) ≤ (hx.2.1 34 2).toInt → (hx.2.1 34 2).toInt ≤ 500 → (0 : Int) ≤ (hx.2.1 34 7).toInt → (hx.2.1 34 7).toInt ≤ 7 → (1 : Int) < n → Go l RX3 cX3_addItem 3 (g_rm (d + 2) 0 0) "addItem" (some .int) 117 0 0 (fun _ _ => True) (fun r h' => ∃ v : Int32, r = some (.int v) ∧ -1 ≤ v.toInt ∧ v.toInt ≤ 127 ∧ Iv P h' ∧ ((h'.2.1 34 2).toInt = (h.2.1 34 2).toInt) ∧ ((h'.2.1 34 1).toInt = (h.2.1 34 1).toInt) ∧ ((h'.2.1 34 7).toInt = (h.2.1 34 7).toInt) ∧ (PR h → PR h')) 0 57 [(2, .int l2)] [] hx) := by
    intro n
    induction n with
    | zero => exact (by intros; omega)
    | succ n ih =>
      refine ?_
      ·
        intro l2 hx hvx l2l l2u prx t0 t1 t2 y0l y0u y1l y1u y2l y2u hm
        obtain ⟨u34_2, u34_2w⟩ : ∃ v : Int32, v = hx.2.1 34 2 := ⟨_, rfl⟩
        have u34_2e : (hx.2.1 34 2).toInt = u34_2.toInt := by rw [u34_2w]
        have u34_2l : 0 ≤ u34_2.toInt := by rw [u34_2w]; exact (hvx.2.1 34 2).1
        have u34_2u : u34_2.toInt ≤ 500 := by rw [u34_2w]; exact (hvx.2.1 34 2).2
        obtain ⟨u34_1, u34_1w⟩ : ∃ v : Int32, v = hx.2.1 34 1 := ⟨_, rfl⟩
        have u34_1e : (hx.2.1 34 1).toInt = u34_1.toInt := by rw [u34_1w]
        have u34_1l : 0 ≤ u34_1.toInt := by rw [u34_1w]; exact (hvx.2.1 34 1).1
        have u34_1u : u34_1.toInt ≤ 500 := by rw [u34_1w]; exact (hvx.2.1 34 1).2
        obtain ⟨u34_7, u34_7w⟩ : ∃ v : Int32, v = hx.2.1 34 7 := ⟨_, rfl⟩
        have u34_7e : (hx.2.1 34 7).toInt = u34_7.toInt := by rw [u34_7w]
        have u34_7l : 0 ≤ u34_7.toInt := by rw [u34_7w]; exact (hvx.2.1 34 7).1
        have u34_7u : u34_7.toInt ≤ 7 := by rw [u34_7w]; exact (hvx.2.1 34 7).2
        refine go_iload_n (pc := 57) rfl dX3_addItem_57 ?_
        have g1 : (0 : Int) ≤ (hx.2.1 34 1).toInt := (hvx.2.1 34 1).1
        have g2 : (hx.2.1 34 1).toInt ≤ 500 := (hvx.2.1 34 1).2
        have g3 : (0 : Int) ≤ (hx.2.1 34 2).toInt := (hvx.2.1 34 2).1
        have g4 : (hx.2.1 34 2).toInt ≤ 500 := (hvx.2.1 34 2).2
        have g5 : (0 : Int) ≤ (hx.2.1 34 7).toInt := (hvx.2.1 34 7).1
        have g6 : (hx.2.1 34 7).toInt ≤ 7 := (hvx.2.1 34 7).2
        have g7 : (hx.2.1 34 2).toInt = u34_2.toInt := by rw [← (show u34_2 = hx.2.1 34 2 from u34_2w)] <;> exact (ti_rfl u34_2)
        have g8 : (hx.2.1 34 1).toInt = u34_1.toInt := by rw [← (show u34_1 = hx.2.1 34 1 from u34_1w)] <;> exact (ti_rfl u34_1)
        have g9 : (hx.2.1 34 7).toInt = u34_7.toInt := by rw [← (show u34_7 = hx.2.1 34 7 from u34_7w)] <;> exact (ti_rfl u34_7)
        exact gi_iret (pc := 58) (ti_rfl l2) ⟨_, rfl, (by rw [show (l2 : Int32).toInt = l2.toInt from (ti_rfl l2)]; omega), (by rw [show (l2 : Int32).toInt = l2.toInt from (ti_rfl l2)]; omega), hvx, (by omega), (by omega), (by omega), prx⟩ hvx dX3_addItem_58
  obtain ⟨u34_2, u34_2w⟩ : ∃ v : Int32, v = h.2.1 34 2 := ⟨_, rfl⟩
  have u34_2e : (h.2.1 34 2).toInt = u34_2.toInt := by rw [u34_2w]
  have u34_2l : 0 ≤ u34_2.toInt := by rw [u34_2w]; exact (hv.2.1 34 2).1
  have u34_2u : u34_2.toInt ≤ 500 := by rw [u34_2w]; exact (hv.2.1 34 2).2
  obtain ⟨u34_1, u34_1w⟩ : ∃ v : Int32, v = h.2.1 34 1 := ⟨_, rfl⟩
  have u34_1e : (h.2.1 34 1).toInt = u34_1.toInt := by rw [u34_1w]
  have u34_1l : 0 ≤ u34_1.toInt := by rw [u34_1w]; exact (hv.2.1 34 1).1
  have u34_1u : u34_1.toInt ≤ 500 := by rw [u34_1w]; exact (hv.2.1 34 1).2
  obtain ⟨u34_7, u34_7w⟩ : ∃ v : Int32, v = h.2.1 34 7 := ⟨_, rfl⟩
  have u34_7e : (h.2.1 34 7).toInt = u34_7.toInt := by rw [u34_7w]
  have u34_7l : 0 ≤ u34_7.toInt := by rw [u34_7w]; exact (hv.2.1 34 7).1
  have u34_7u : u34_7.toInt ≤ 7 := by rw [u34_7w]; exact (hv.2.1 34 7).2
  refine go_aload_n (pc := 0) rfl dX3_addItem_0 ?_
  refine gi_getF (pc := 1) (q := 36) hv fL_X3_28 rfl (Nat.le_of_ble_eq_true rfl) rfl (hv.rf (by decide)) dX3_addItem_1 ?_
  refine go_iload_n (pc := 4) rfl dX3_addItem_4 ?_
  have g10 : (0 : Int) ≤ (h.2.1 34 1).toInt := (hv.2.1 34 1).1
  have g11 : (h.2.1 34 1).toInt ≤ 500 := (hv.2.1 34 1).2
  have g12 : (0 : Int) ≤ (h.2.1 34 2).toInt := (hv.2.1 34 2).1
  have g13 : (h.2.1 34 2).toInt ≤ 500 := (hv.2.1 34 2).2
  have g14 : (0 : Int) ≤ (h.2.1 34 7).toInt := (hv.2.1 34 7).1
  have g15 : (h.2.1 34 7).toInt ≤ 7 := (hv.2.1 34 7).2
  have g16 : (h.2.1 34 2).toInt = u34_2.toInt := by rw [← (show u34_2 = h.2.1 34 2 from u34_2w)] <;> exact (ti_rfl u34_2)
  have g17 : (h.2.1 34 1).toInt = u34_1.toInt := by rw [← (show u34_1 = h.2.1 34 1 from u34_1w)] <;> exact (ti_rfl u34_1)
  have g18 : (h.2.1 34 7).toInt = u34_7.toInt := by rw [← (show u34_7 = h.2.1 34 7 from u34_7w)] <;> exact (ti_rfl u34_7)
  refine go_invV (pc := 5) (sl := 0) (s_X5_add l (d + 0) hv a2 (by rw [show (a2 : Int32).toInt = a2.toInt from (ti_rfl a2)]; omega) (by rw [show (a2 : Int32).toInt = a2.toInt from (ti_rfl a2)]; omega)) mL_X3_151 iM_X5_add sM_X5_add (hv.sh rfl) rfl rfl rfl (Nat.le_of_ble_eq_true rfl) (show d + 0 + 1 + 1 ≤ d + 2 by omega) (show 8 + (3 + 11) + 40 * (d + 0 + 1) ≤ 40 * (d + 2) by omega) (g_c0 hv.ln) (Nat.le_of_ble_eq_true rfl) dX3_addItem_5 ?_
  intro r h19 hq _
  obtain ⟨v23, rfl, v23l, v23u, hv19, f20, f21, f22, pt19⟩ := hq
  have pr19 : PR h → PR h19 := fun z => pt19 (pr z)
  obtain ⟨u24, u24w⟩ : ∃ v : Int32, v = h19.2.1 34 1 := ⟨_, rfl⟩
  have u24e : (h19.2.1 34 1).toInt = u24.toInt := by rw [u24w]
  have u24l : 0 ≤ u24.toInt := by rw [u24w]; exact (hv19.2.1 34 1).1
  have u24u : u24.toInt ≤ 500 := by rw [u24w]; exact (hv19.2.1 34 1).2
  obtain ⟨u25, u25w⟩ : ∃ v : Int32, v = h19.2.1 34 2 := ⟨_, rfl⟩
  have u25e : (h19.2.1 34 2).toInt = u25.toInt := by rw [u25w]
  have u25l : 0 ≤ u25.toInt := by rw [u25w]; exact (hv19.2.1 34 2).1
  have u25u : u25.toInt ≤ 500 := by rw [u25w]; exact (hv19.2.1 34 2).2
  obtain ⟨u26, u26w⟩ : ∃ v : Int32, v = h19.2.1 34 7 := ⟨_, rfl⟩
  have u26e : (h19.2.1 34 7).toInt = u26.toInt := by rw [u26w]
  have u26l : 0 ≤ u26.toInt := by rw [u26w]; exact (hv19.2.1 34 7).1
  have u26u : u26.toInt ≤ 7 := by rw [u26w]; exact (hv19.2.1 34 7).2
  refine go_istore_n (pc := 8) (Nat.le_of_ble_eq_true rfl) dX3_addItem_8 (go_lv (lv2 := [(0, .ref 34), (1, .int a2), (2, .int v23)]) rfl ?_)
  refine go_iload_n (pc := 9) rfl dX3_addItem_9 ?_
  refine gf_if_ge (pc := 10) (tgt := 25) (ti_rfl v23) (by decide) dX3_addItem_10 (fun q27 => ?_) (fun q27 => ?_)
  ·
    refine go_aload_n (pc := 25) rfl dX3_addItem_25 ?_
    refine gi_getF (pc := 26) (q := 36) hv19 fL_X3_28 rfl (Nat.le_of_ble_eq_true rfl) rfl (hv19.rf (by decide)) dX3_addItem_26 ?_
    refine gi_getF (pc := 29) (q := 38) hv19 fL_X3_154 rfl (Nat.le_of_ble_eq_true rfl) rfl (hv19.rf (by decide)) dX3_addItem_29 ?_
    refine go_iload_n (pc := 32) rfl dX3_addItem_32 ?_
    refine go_aload_n (pc := 33) rfl dX3_addItem_33 ?_
    refine gi_getF (pc := 34) (q := 46) hv19 fL_X3_39 rfl (Nat.le_of_ble_eq_true rfl) rfl (hv19.rf (by decide)) dX3_addItem_34 ?_
    refine go_aload_n (pc := 37) rfl dX3_addItem_37 ?_
    refine gi_get (pc := 38) (lo := 0) (hi := 7) hv19 fL_X3_32 rfl (Nat.le_of_ble_eq_true rfl) rfl rfl dX3_addItem_38 (fun v28 v28l v28u v28w => ?_)
    have v28r : u26 = h19.2.1 34 7 := u26w
    have v28q : TI v28 u26.toInt := by rw [v28w.trans v28r.symm]; exact (ti_rfl u26)
    refine go_iconst (pc := 41) (v := 1) (by decide) dX3_addItem_41 ?_
    refine gf_isub (pc := 42) v28q (ti_c (v := 1) (a := 1) (by decide)) (by omega) (by omega) dX3_addItem_42 (fun v29 e30 => ?_)
    refine gi_iald (pc := 43) (lo := -1) (hi := 127) (len := 7) hv19 e30 rfl (by omega) (by omega) (fun _ => rfl) dX3_addItem_43 (fun v31 v31l v31u v31w => ?_)
    refine gi_iast (pc := 44) (lo := -1) (hi := 127) (len := 128) hv19 (ti_rfl v23) (ti_rfl v31) rfl (by omega) (by omega) (fun _ => rfl) (by omega) (by omega) (by decide) dX3_addItem_44 (fun h32 hv32 hv32e => ?_)
    have pr32 : PR h → PR h32 := fun z => by rw [hv32e]; exact PR.put hv19 (pr19 z) (by omega)
    refine go_aload_n (pc := 45) rfl dX3_addItem_45 ?_
    refine gi_getF (pc := 46) (q := 46) hv32 fL_X3_39 rfl (Nat.le_of_ble_eq_true rfl) rfl (hv32.rf (by decide)) dX3_addItem_46 ?_
    refine go_aload_n (pc := 49) rfl dX3_addItem_49 ?_
    refine gi_get (pc := 50) (lo := 0) (hi := 7) hv32 fL_X3_32 rfl (Nat.le_of_ble_eq_true rfl) rfl rfl dX3_addItem_50 (fun v33 v33l v33u v33w => ?_)
    have v33r : u26 = h32.2.1 34 7 := (show u26 = h32.2.1 34 7 from by rw [hv32e]; exact (g_iI rfl u26w.symm).symm)
    have v33q : TI v33 u26.toInt := by rw [v33w.trans v33r.symm]; exact (ti_rfl u26)
    refine go_iconst (pc := 53) (v := 1) (by decide) dX3_addItem_53 ?_
    refine gf_isub (pc := 54) v33q (ti_c (v := 1) (a := 1) (by decide)) (by omega) (by omega) dX3_addItem_54 (fun v34 e35 => ?_)
    refine go_iload_n (pc := 55) rfl dX3_addItem_55 ?_
    refine gi_iast (pc := 56) (lo := -1) (hi := 127) (len := 7) hv32 e35 (ti_rfl v23) rfl (by omega) (by omega) (fun _ => rfl) (by omega) (by omega) (by decide) dX3_addItem_56 (fun h36 hv36 hv36e => ?_)
    have pr36 : PR h → PR h36 := fun z => by rw [hv36e]; exact PR.put hv32 (pr32 z) (by omega)
    have g37 : (0 : Int) ≤ (h36.2.1 34 1).toInt := (hv36.2.1 34 1).1
    have g38 : (h36.2.1 34 1).toInt ≤ 500 := (hv36.2.1 34 1).2
    have g39 : (0 : Int) ≤ (h36.2.1 34 2).toInt := (hv36.2.1 34 2).1
    have g40 : (h36.2.1 34 2).toInt ≤ 500 := (hv36.2.1 34 2).2
    have g41 : (0 : Int) ≤ (h36.2.1 34 7).toInt := (hv36.2.1 34 7).1
    have g42 : (h36.2.1 34 7).toInt ≤ 7 := (hv36.2.1 34 7).2
    have g43 : (h36.2.1 34 1).toInt = u24.toInt := by rw [← (show u24 = h36.2.1 34 1 from (show u24 = h36.2.1 34 1 from by rw [hv36e]; exact (g_iI rfl (show u24 = h32.2.1 34 1 from by rw [hv32e]; exact (g_iI rfl u24w.symm).symm).symm).symm))] <;> exact (ti_rfl u24)
    have g44 : (h36.2.1 34 2).toInt = u25.toInt := by rw [← (show u25 = h36.2.1 34 2 from (show u25 = h36.2.1 34 2 from by rw [hv36e]; exact (g_iI rfl (show u25 = h32.2.1 34 2 from by rw [hv32e]; exact (g_iI rfl u25w.symm).symm).symm).symm))] <;> exact (ti_rfl u25)
    have g45 : (h36.2.1 34 7).toInt = u26.toInt := by rw [← (show u26 = h36.2.1 34 7 from (show u26 = h36.2.1 34 7 from by rw [hv36e]; exact (g_iI rfl (show u26 = h32.2.1 34 7 from by rw [hv32e]; exact (g_iI rfl u26w.symm).symm).symm).symm))] <;> exact (ti_rfl u26)
    exact go_lv rfl ((key 14) v23 h36 hv36 (by omega) (by omega) pr36 (by omega) (by omega) (by omega) (by omega) (by omega) (by omega) (by omega) (by omega) (by omega) (by omega))
  ·
    refine go_aload_n (pc := 13) rfl dX3_addItem_13 ?_
    refine go_iconst (pc := 14) (v := 4) (by decide) dX3_addItem_14 ?_
    refine go_aload_n (pc := 15) rfl dX3_addItem_15 ?_
    refine gi_get (pc := 16) (lo := 0) (hi := 500) hv19 fL_X3_19 rfl (Nat.le_of_ble_eq_true rfl) rfl rfl dX3_addItem_16 (fun v46 v46l v46u v46w => ?_)
    have v46r : u25 = h19.2.1 34 2 := u25w
    have v46q : TI v46 u25.toInt := by rw [v46w.trans v46r.symm]; exact (ti_rfl u25)
    have g47 : (0 : Int) ≤ (h19.2.1 34 1).toInt := (hv19.2.1 34 1).1
    have g48 : (h19.2.1 34 1).toInt ≤ 500 := (hv19.2.1 34 1).2
    have g49 : (0 : Int) ≤ (h19.2.1 34 2).toInt := (hv19.2.1 34 2).1
    have g50 : (h19.2.1 34 2).toInt ≤ 500 := (hv19.2.1 34 2).2
    have g51 : (0 : Int) ≤ (h19.2.1 34 7).toInt := (hv19.2.1 34 7).1
    have g52 : (h19.2.1 34 7).toInt ≤ 7 := (hv19.2.1 34 7).2
    have g53 : (h19.2.1 34 1).toInt = u24.toInt := by rw [← (show u24 = h19.2.1 34 1 from u24w)] <;> exact (ti_rfl u24)
    have g54 : (h19.2.1 34 2).toInt = u25.toInt := by rw [← (show u25 = h19.2.1 34 2 from u25w)] <;> exact (ti_rfl u25)
    have g55 : (h19.2.1 34 7).toInt = u26.toInt := by rw [← (show u26 = h19.2.1 34 7 from u26w)] <;> exact (ti_rfl u26)
    refine go_invV (pc := 19) (sl := 0) (s_X3_blame l (d + 0) hv19 4 (by rw [show (4 : Int32).toInt = 4 from (ti_c (v := 4) (a := 4) (by decide))]; omega) (by rw [show (4 : Int32).toInt = 4 from (ti_c (v := 4) (a := 4) (by decide))]; omega) v46 (by rw [show (v46 : Int32).toInt = u25.toInt from v46q]; omega) (by rw [show (v46 : Int32).toInt = u25.toInt from v46q]; omega)) mL_X3_101 iM_X3_blame sM_X3_blame (hv19.sh rfl) rfl rfl rfl (Nat.le_of_ble_eq_true rfl) (show d + 0 + 1 + 1 ≤ d + 2 by omega) (show 8 + (3 + 11) + 40 * (d + 0 + 1) ≤ 40 * (d + 2) by omega) (g_c0 hv19.ln) (Nat.le_of_ble_eq_true rfl) dX3_addItem_19 ?_
    intro r h56 hq _
    obtain ⟨rfl, hv56, f57, f58, f59, f60, pt56⟩ := hq
    have pr56 : PR h → PR h56 := fun z => pt56 (pr19 z)
    try rw [show (4 : Int32).toInt = 4 from (ti_c (v := 4) (a := 4) (by decide))] at f57
    try rw [show (v46 : Int32).toInt = u25.toInt from v46q] at f57
    try rw [show (4 : Int32).toInt = 4 from (ti_c (v := 4) (a := 4) (by decide))] at f58
    try rw [show (v46 : Int32).toInt = u25.toInt from v46q] at f58
    try rw [show (4 : Int32).toInt = 4 from (ti_c (v := 4) (a := 4) (by decide))] at f59
    try rw [show (v46 : Int32).toInt = u25.toInt from v46q] at f59
    try rw [show (4 : Int32).toInt = 4 from (ti_c (v := 4) (a := 4) (by decide))] at f60
    try rw [show (v46 : Int32).toInt = u25.toInt from v46q] at f60
    obtain ⟨u61, u61w⟩ : ∃ v : Int32, v = h56.2.1 34 1 := ⟨_, rfl⟩
    have u61e : (h56.2.1 34 1).toInt = u61.toInt := by rw [u61w]
    have u61l : 0 ≤ u61.toInt := by rw [u61w]; exact (hv56.2.1 34 1).1
    have u61u : u61.toInt ≤ 500 := by rw [u61w]; exact (hv56.2.1 34 1).2
    obtain ⟨u62, u62w⟩ : ∃ v : Int32, v = h56.2.1 34 2 := ⟨_, rfl⟩
    have u62e : (h56.2.1 34 2).toInt = u62.toInt := by rw [u62w]
    have u62l : 0 ≤ u62.toInt := by rw [u62w]; exact (hv56.2.1 34 2).1
    have u62u : u62.toInt ≤ 500 := by rw [u62w]; exact (hv56.2.1 34 2).2
    obtain ⟨u63, u63w⟩ : ∃ v : Int32, v = h56.2.1 34 7 := ⟨_, rfl⟩
    have u63e : (h56.2.1 34 7).toInt = u63.toInt := by rw [u63w]
    have u63l : 0 ≤ u63.toInt := by rw [u63w]; exact (hv56.2.1 34 7).1
    have u63u : u63.toInt ≤ 7 := by rw [u63w]; exact (hv56.2.1 34 7).2
    refine go_goto (pc := 22) (tgt := 57) (by decide) dX3_addItem_22 ?_
    have g64 : (0 : Int) ≤ (h56.2.1 34 1).toInt := (hv56.2.1 34 1).1
    have g65 : (h56.2.1 34 1).toInt ≤ 500 := (hv56.2.1 34 1).2
    have g66 : (0 : Int) ≤ (h56.2.1 34 2).toInt := (hv56.2.1 34 2).1
    have g67 : (h56.2.1 34 2).toInt ≤ 500 := (hv56.2.1 34 2).2
    have g68 : (0 : Int) ≤ (h56.2.1 34 7).toInt := (hv56.2.1 34 7).1
    have g69 : (h56.2.1 34 7).toInt ≤ 7 := (hv56.2.1 34 7).2
    have g70 : (h56.2.1 34 1).toInt = u61.toInt := by rw [← (show u61 = h56.2.1 34 1 from u61w)] <;> exact (ti_rfl u61)
    have g71 : (h56.2.1 34 2).toInt = u62.toInt := by rw [← (show u62 = h56.2.1 34 2 from u62w)] <;> exact (ti_rfl u62)
    have g72 : (h56.2.1 34 7).toInt = u63.toInt := by rw [← (show u63 = h56.2.1 34 7 from u63w)] <;> exact (ti_rfl u63)
    exact go_lv rfl ((key 14) v23 h56 hv56 (by omega) (by omega) pr56 (by omega) (by omega) (by omega) (by omega) (by omega) (by omega) (by omega) (by omega) (by omega) (by omega))
set_option maxHeartbeats 4000000 in
set_option maxRecDepth 100000 in
theorem s_X3_openBlock (l : Launch) (d : Nat) {P : PP} {h : HP} (hv : Iv P h) (a2 : Int32) (a2l : -1 ≤ a2.toInt) (a2u : a2.toInt ≤ 127) (a3 : Int32) (a3l : 0 ≤ a3.toInt) (a3u : a3.toInt ≤ 1) : Mt l yX3_openBlock cX3_openBlock 3 none (d + 2) [.ref 34, .int a2, .int a3] h 0 0 (fun r h' => r = none ∧ Iv P h' ∧ (PR h → PR h')) := by
  refine Mt_iv hv (by decide) (Nat.le_of_ble_eq_true rfl) ?_
  show Go l RX3 cX3_openBlock 3 (g_rm (d + 2) 0 0) "openBlock" none 117 0 0 (fun _ _ => True) (fun r h' => r = none ∧ Iv P h' ∧ (PR h → PR h')) 0 0 [(0, .ref 34), (1, .int a2), (2, .int a3)] [] h
  have pr : PR h → PR h := id
  have key : ∀ n : Nat, (∀  (hx : HP), Iv P hx → (PR h → PR hx) → (0 : Int) ≤ (hx.2.1 34 2).toInt → (hx.2.1 34 2).toInt ≤ 500 → (0 : Int) ≤ (hx.2.1 34 7).toInt → (hx.2.1 34 7).toInt ≤ 7 → (1 : Int) < n → Go l RX3 cX3_openBlock 3 (g_rm (d + 2) 0 0) "openBlock" none 117 0 0 (fun _ _ => True) (fun r h' => r = none ∧ Iv P h' ∧ (PR h → PR h')) 0 92 [] [] hx) := by
    intro n
    induction n with
    | zero => exact (by intros; omega)
    | succ n ih =>
      refine ?_
      ·
        intro hx hvx prx y0l y0u y1l y1u hm
        exact gi_vret (pc := 92) ⟨rfl, hvx, prx⟩ hvx dX3_openBlock_92
  refine go_aload_n (pc := 0) rfl dX3_openBlock_0 ?_
  have g1 : (0 : Int) ≤ (h.2.1 34 2).toInt := (hv.2.1 34 2).1
  have g2 : (h.2.1 34 2).toInt ≤ 500 := (hv.2.1 34 2).2
  have g3 : (0 : Int) ≤ (h.2.1 34 7).toInt := (hv.2.1 34 7).1
  have g4 : (h.2.1 34 7).toInt ≤ 7 := (hv.2.1 34 7).2
  refine go_invV (pc := 1) (sl := 0) (s_X3_look l (d + 0) hv ) mL_X3_66 iM_X3_look sM_X3_look (hv.sh rfl) rfl rfl rfl (Nat.le_of_ble_eq_true rfl) (show d + 0 + 1 + 1 ≤ d + 2 by omega) (show 8 + (1 + 11) + 40 * (d + 0 + 1) ≤ 40 * (d + 2) by omega) (g_c0 hv.ln) (Nat.le_of_ble_eq_true rfl) dX3_openBlock_1 ?_
  intro r h5 hq _
  obtain ⟨v9, rfl, v9l, v9u, hv5, f6, f7, f8, pt5⟩ := hq
  have pr5 : PR h → PR h5 := fun z => pt5 (pr z)
  obtain ⟨u10, u10w⟩ : ∃ v : Int32, v = h5.2.1 34 2 := ⟨_, rfl⟩
  have u10e : (h5.2.1 34 2).toInt = u10.toInt := by rw [u10w]
  have u10l : 0 ≤ u10.toInt := by rw [u10w]; exact (hv5.2.1 34 2).1
  have u10u : u10.toInt ≤ 500 := by rw [u10w]; exact (hv5.2.1 34 2).2
  obtain ⟨u11, u11w⟩ : ∃ v : Int32, v = h5.2.1 34 7 := ⟨_, rfl⟩
  have u11e : (h5.2.1 34 7).toInt = u11.toInt := by rw [u11w]
  have u11l : 0 ≤ u11.toInt := by rw [u11w]; exact (hv5.2.1 34 7).1
  have u11u : u11.toInt ≤ 7 := by rw [u11w]; exact (hv5.2.1 34 7).2
  refine go_bipush (pc := 4) (v := 123) (by decide) dX3_openBlock_4 ?_
  refine gf_icmp_eq (pc := 6) (tgt := 21) (ti_rfl v9) (ti_c (v := 123) (a := 123) (by decide)) (by decide) dX3_openBlock_6 (fun q12 => ?_) (fun q12 => ?_)
  ·
    refine go_aload_n (pc := 21) rfl dX3_openBlock_21 ?_
    refine gi_get (pc := 22) (lo := 0) (hi := 7) hv5 fL_X3_32 rfl (Nat.le_of_ble_eq_true rfl) rfl rfl dX3_openBlock_22 (fun v13 v13l v13u v13w => ?_)
    have v13r : u11 = h5.2.1 34 7 := u11w
    have v13q : TI v13 u11.toInt := by rw [v13w.trans v13r.symm]; exact (ti_rfl u11)
    refine go_bipush (pc := 25) (v := 6) (by decide) dX3_openBlock_25 ?_
    refine gf_icmp_le (pc := 27) (tgt := 42) v13q (ti_c (v := 6) (a := 6) (by decide)) (by decide) dX3_openBlock_27 (fun q14 => ?_) (fun q14 => ?_)
    ·
      refine go_aload_n (pc := 42) rfl dX3_openBlock_42 ?_
      refine go_dup (pc := 43) rfl dX3_openBlock_43 ?_
      refine gi_get (pc := 44) (lo := 0) (hi := 500) hv5 fL_X3_19 rfl (Nat.le_of_ble_eq_true rfl) rfl rfl dX3_openBlock_44 (fun v15 v15l v15u v15w => ?_)
      have v15r : u10 = h5.2.1 34 2 := u10w
      have v15q : TI v15 u10.toInt := by rw [v15w.trans v15r.symm]; exact (ti_rfl u10)
      refine go_iconst (pc := 47) (v := 1) (by decide) dX3_openBlock_47 ?_
      refine gf_iadd (pc := 48) v15q (ti_c (v := 1) (a := 1) (by decide)) (by omega) (by omega) dX3_openBlock_48 (fun v16 e17 => ?_)
      refine gi_put (pc := 49) (lo := 0) (hi := 500) hv5 e17 (fP_X3_19 _) rfl (Nat.le_of_ble_eq_true rfl) rfl rfl (by omega) (by omega) rfl rfl (by decide) (by decide) (by decide) (by decide) dX3_openBlock_49 (fun h18 hv18 hv18e => ?_)
      have pr18 : PR h → PR h18 := fun z => by rw [hv18e]; exact PR.put hv5 (pr5 z) (by omega)
      refine go_aload_n (pc := 52) rfl dX3_openBlock_52 ?_
      refine gi_getF (pc := 53) (q := 45) hv18 fL_X3_35 rfl (Nat.le_of_ble_eq_true rfl) rfl (hv18.rf (by decide)) dX3_openBlock_53 ?_
      refine go_aload_n (pc := 56) rfl dX3_openBlock_56 ?_
      refine gi_get (pc := 57) (lo := 0) (hi := 7) hv18 fL_X3_32 rfl (Nat.le_of_ble_eq_true rfl) rfl rfl dX3_openBlock_57 (fun v19 v19l v19u v19w => ?_)
      have v19r : u11 = h18.2.1 34 7 := (show u11 = h18.2.1 34 7 from by rw [hv18e]; exact (g_iI rfl u11w.symm).symm)
      have v19q : TI v19 u11.toInt := by rw [v19w.trans v19r.symm]; exact (ti_rfl u11)
      refine go_iload_n (pc := 60) rfl dX3_openBlock_60 ?_
      refine gi_iast (pc := 61) (lo := -1) (hi := 127) (len := 7) hv18 v19q (ti_rfl a2) rfl (by omega) (by omega) (fun _ => rfl) (by omega) (by omega) (by decide) dX3_openBlock_61 (fun h20 hv20 hv20e => ?_)
      have pr20 : PR h → PR h20 := fun z => by rw [hv20e]; exact PR.put hv18 (pr18 z) (by omega)
      refine go_aload_n (pc := 62) rfl dX3_openBlock_62 ?_
      refine gi_getF (pc := 63) (q := 46) hv20 fL_X3_39 rfl (Nat.le_of_ble_eq_true rfl) rfl (hv20.rf (by decide)) dX3_openBlock_63 ?_
      refine go_aload_n (pc := 66) rfl dX3_openBlock_66 ?_
      refine gi_get (pc := 67) (lo := 0) (hi := 7) hv20 fL_X3_32 rfl (Nat.le_of_ble_eq_true rfl) rfl rfl dX3_openBlock_67 (fun v21 v21l v21u v21w => ?_)
      have v21r : u11 = h20.2.1 34 7 := (show u11 = h20.2.1 34 7 from by rw [hv20e]; exact (g_iI rfl (show u11 = h18.2.1 34 7 from by rw [hv18e]; exact (g_iI rfl u11w.symm).symm).symm).symm)
      have v21q : TI v21 u11.toInt := by rw [v21w.trans v21r.symm]; exact (ti_rfl u11)
      refine go_iconst (pc := 70) (v := (-1)) (by decide) dX3_openBlock_70 ?_
      refine gi_iast (pc := 71) (lo := -1) (hi := 127) (len := 7) hv20 v21q (ti_c (v := (-1)) (a := (-1)) (by decide)) rfl (by omega) (by omega) (fun _ => rfl) (by omega) (by omega) (by decide) dX3_openBlock_71 (fun h22 hv22 hv22e => ?_)
      have pr22 : PR h → PR h22 := fun z => by rw [hv22e]; exact PR.put hv20 (pr20 z) (by omega)
      refine go_aload_n (pc := 72) rfl dX3_openBlock_72 ?_
      refine gi_getF (pc := 73) (q := 47) hv22 fL_X3_42 rfl (Nat.le_of_ble_eq_true rfl) rfl (hv22.rf (by decide)) dX3_openBlock_73 ?_
      refine go_aload_n (pc := 76) rfl dX3_openBlock_76 ?_
      refine gi_get (pc := 77) (lo := 0) (hi := 7) hv22 fL_X3_32 rfl (Nat.le_of_ble_eq_true rfl) rfl rfl dX3_openBlock_77 (fun v23 v23l v23u v23w => ?_)
      have v23r : u11 = h22.2.1 34 7 := (show u11 = h22.2.1 34 7 from by rw [hv22e]; exact (g_iI rfl (show u11 = h20.2.1 34 7 from by rw [hv20e]; exact (g_iI rfl (show u11 = h18.2.1 34 7 from by rw [hv18e]; exact (g_iI rfl u11w.symm).symm).symm).symm).symm).symm)
      have v23q : TI v23 u11.toInt := by rw [v23w.trans v23r.symm]; exact (ti_rfl u11)
      refine go_iload_n (pc := 80) rfl dX3_openBlock_80 ?_
      refine gi_zast (pc := 81) (len := 7) hv22 v23q (ti_rfl a3) rfl (by omega) (by omega) (fun _ => rfl) (by omega) (by omega) (by decide) dX3_openBlock_81 (fun h24 hv24 hv24e => ?_)
      have pr24 : PR h → PR h24 := fun z => by rw [hv24e]; exact PR.put hv22 (pr22 z) (by omega)
      refine go_aload_n (pc := 82) rfl dX3_openBlock_82 ?_
      refine go_dup (pc := 83) rfl dX3_openBlock_83 ?_
      refine gi_get (pc := 84) (lo := 0) (hi := 7) hv24 fL_X3_32 rfl (Nat.le_of_ble_eq_true rfl) rfl rfl dX3_openBlock_84 (fun v25 v25l v25u v25w => ?_)
      have v25r : u11 = h24.2.1 34 7 := (show u11 = h24.2.1 34 7 from by rw [hv24e]; exact (g_iI rfl (show u11 = h22.2.1 34 7 from by rw [hv22e]; exact (g_iI rfl (show u11 = h20.2.1 34 7 from by rw [hv20e]; exact (g_iI rfl (show u11 = h18.2.1 34 7 from by rw [hv18e]; exact (g_iI rfl u11w.symm).symm).symm).symm).symm).symm).symm).symm)
      have v25q : TI v25 u11.toInt := by rw [v25w.trans v25r.symm]; exact (ti_rfl u11)
      refine go_iconst (pc := 87) (v := 1) (by decide) dX3_openBlock_87 ?_
      refine gf_iadd (pc := 88) v25q (ti_c (v := 1) (a := 1) (by decide)) (by omega) (by omega) dX3_openBlock_88 (fun v26 e27 => ?_)
      refine gi_put (pc := 89) (lo := 0) (hi := 7) hv24 e27 (fP_X3_32 _) rfl (Nat.le_of_ble_eq_true rfl) rfl rfl (by omega) (by omega) rfl rfl (by decide) (by decide) (by decide) (by decide) dX3_openBlock_89 (fun h28 hv28 hv28e => ?_)
      have pr28 : PR h → PR h28 := fun z => by rw [hv28e]; exact PR.put hv24 (pr24 z) (by omega)
      have g29 : (0 : Int) ≤ (h28.2.1 34 2).toInt := (hv28.2.1 34 2).1
      have g30 : (h28.2.1 34 2).toInt ≤ 500 := (hv28.2.1 34 2).2
      have g31 : (0 : Int) ≤ (h28.2.1 34 7).toInt := (hv28.2.1 34 7).1
      have g32 : (h28.2.1 34 7).toInt ≤ 7 := (hv28.2.1 34 7).2
      have g33 : (h28.2.1 34 2).toInt = (u10.toInt + 1) := by rw [← (show v16 = h28.2.1 34 2 from (show v16 = h28.2.1 34 2 from by rw [hv28e]; exact (g_iI rfl (show v16 = h24.2.1 34 2 from by rw [hv24e]; exact (g_iI rfl (show v16 = h22.2.1 34 2 from by rw [hv22e]; exact (g_iI rfl (show v16 = h20.2.1 34 2 from by rw [hv20e]; exact (g_iI rfl (show v16 = h18.2.1 34 2 from by rw [hv18e]; exact g_iS.symm).symm).symm).symm).symm).symm).symm).symm).symm))] <;> exact e17
      have g34 : (h28.2.1 34 7).toInt = (u11.toInt + 1) := by rw [← (show v26 = h28.2.1 34 7 from (show v26 = h28.2.1 34 7 from by rw [hv28e]; exact g_iS.symm))] <;> exact e27
      exact go_lv rfl ((key 14)  h28 hv28 pr28 (by omega) (by omega) (by omega) (by omega) (by omega))
    ·
      refine go_aload_n (pc := 30) rfl dX3_openBlock_30 ?_
      refine go_iconst (pc := 31) (v := 4) (by decide) dX3_openBlock_31 ?_
      refine go_aload_n (pc := 32) rfl dX3_openBlock_32 ?_
      refine gi_get (pc := 33) (lo := 0) (hi := 500) hv5 fL_X3_19 rfl (Nat.le_of_ble_eq_true rfl) rfl rfl dX3_openBlock_33 (fun v35 v35l v35u v35w => ?_)
      have v35r : u10 = h5.2.1 34 2 := u10w
      have v35q : TI v35 u10.toInt := by rw [v35w.trans v35r.symm]; exact (ti_rfl u10)
      have g36 : (0 : Int) ≤ (h5.2.1 34 2).toInt := (hv5.2.1 34 2).1
      have g37 : (h5.2.1 34 2).toInt ≤ 500 := (hv5.2.1 34 2).2
      have g38 : (0 : Int) ≤ (h5.2.1 34 7).toInt := (hv5.2.1 34 7).1
      have g39 : (h5.2.1 34 7).toInt ≤ 7 := (hv5.2.1 34 7).2
      have g40 : (h5.2.1 34 2).toInt = u10.toInt := by rw [← (show u10 = h5.2.1 34 2 from u10w)] <;> exact (ti_rfl u10)
      have g41 : (h5.2.1 34 7).toInt = u11.toInt := by rw [← (show u11 = h5.2.1 34 7 from u11w)] <;> exact (ti_rfl u11)
      refine go_invV (pc := 36) (sl := 0) (s_X3_blame l (d + 0) hv5 4 (by rw [show (4 : Int32).toInt = 4 from (ti_c (v := 4) (a := 4) (by decide))]; omega) (by rw [show (4 : Int32).toInt = 4 from (ti_c (v := 4) (a := 4) (by decide))]; omega) v35 (by rw [show (v35 : Int32).toInt = u10.toInt from v35q]; omega) (by rw [show (v35 : Int32).toInt = u10.toInt from v35q]; omega)) mL_X3_101 iM_X3_blame sM_X3_blame (hv5.sh rfl) rfl rfl rfl (Nat.le_of_ble_eq_true rfl) (show d + 0 + 1 + 1 ≤ d + 2 by omega) (show 8 + (3 + 11) + 40 * (d + 0 + 1) ≤ 40 * (d + 2) by omega) (g_c0 hv5.ln) (Nat.le_of_ble_eq_true rfl) dX3_openBlock_36 ?_
      intro r h42 hq _
      obtain ⟨rfl, hv42, f43, f44, f45, f46, pt42⟩ := hq
      have pr42 : PR h → PR h42 := fun z => pt42 (pr5 z)
      try rw [show (4 : Int32).toInt = 4 from (ti_c (v := 4) (a := 4) (by decide))] at f43
      try rw [show (v35 : Int32).toInt = u10.toInt from v35q] at f43
      try rw [show (4 : Int32).toInt = 4 from (ti_c (v := 4) (a := 4) (by decide))] at f44
      try rw [show (v35 : Int32).toInt = u10.toInt from v35q] at f44
      try rw [show (4 : Int32).toInt = 4 from (ti_c (v := 4) (a := 4) (by decide))] at f45
      try rw [show (v35 : Int32).toInt = u10.toInt from v35q] at f45
      try rw [show (4 : Int32).toInt = 4 from (ti_c (v := 4) (a := 4) (by decide))] at f46
      try rw [show (v35 : Int32).toInt = u10.toInt from v35q] at f46
      obtain ⟨u47, u47w⟩ : ∃ v : Int32, v = h42.2.1 34 2 := ⟨_, rfl⟩
      have u47e : (h42.2.1 34 2).toInt = u47.toInt := by rw [u47w]
      have u47l : 0 ≤ u47.toInt := by rw [u47w]; exact (hv42.2.1 34 2).1
      have u47u : u47.toInt ≤ 500 := by rw [u47w]; exact (hv42.2.1 34 2).2
      obtain ⟨u48, u48w⟩ : ∃ v : Int32, v = h42.2.1 34 7 := ⟨_, rfl⟩
      have u48e : (h42.2.1 34 7).toInt = u48.toInt := by rw [u48w]
      have u48l : 0 ≤ u48.toInt := by rw [u48w]; exact (hv42.2.1 34 7).1
      have u48u : u48.toInt ≤ 7 := by rw [u48w]; exact (hv42.2.1 34 7).2
      refine go_goto (pc := 39) (tgt := 92) (by decide) dX3_openBlock_39 ?_
      have g49 : (0 : Int) ≤ (h42.2.1 34 2).toInt := (hv42.2.1 34 2).1
      have g50 : (h42.2.1 34 2).toInt ≤ 500 := (hv42.2.1 34 2).2
      have g51 : (0 : Int) ≤ (h42.2.1 34 7).toInt := (hv42.2.1 34 7).1
      have g52 : (h42.2.1 34 7).toInt ≤ 7 := (hv42.2.1 34 7).2
      have g53 : (h42.2.1 34 2).toInt = u47.toInt := by rw [← (show u47 = h42.2.1 34 2 from u47w)] <;> exact (ti_rfl u47)
      have g54 : (h42.2.1 34 7).toInt = u48.toInt := by rw [← (show u48 = h42.2.1 34 7 from u48w)] <;> exact (ti_rfl u48)
      exact go_lv rfl ((key 14)  h42 hv42 pr42 (by omega) (by omega) (by omega) (by omega) (by omega))
  ·
    refine go_aload_n (pc := 9) rfl dX3_openBlock_9 ?_
    refine go_iconst (pc := 10) (v := 1) (by decide) dX3_openBlock_10 ?_
    refine go_aload_n (pc := 11) rfl dX3_openBlock_11 ?_
    refine gi_get (pc := 12) (lo := 0) (hi := 500) hv5 fL_X3_19 rfl (Nat.le_of_ble_eq_true rfl) rfl rfl dX3_openBlock_12 (fun v55 v55l v55u v55w => ?_)
    have v55r : u10 = h5.2.1 34 2 := u10w
    have v55q : TI v55 u10.toInt := by rw [v55w.trans v55r.symm]; exact (ti_rfl u10)
    have g56 : (0 : Int) ≤ (h5.2.1 34 2).toInt := (hv5.2.1 34 2).1
    have g57 : (h5.2.1 34 2).toInt ≤ 500 := (hv5.2.1 34 2).2
    have g58 : (0 : Int) ≤ (h5.2.1 34 7).toInt := (hv5.2.1 34 7).1
    have g59 : (h5.2.1 34 7).toInt ≤ 7 := (hv5.2.1 34 7).2
    have g60 : (h5.2.1 34 2).toInt = u10.toInt := by rw [← (show u10 = h5.2.1 34 2 from u10w)] <;> exact (ti_rfl u10)
    have g61 : (h5.2.1 34 7).toInt = u11.toInt := by rw [← (show u11 = h5.2.1 34 7 from u11w)] <;> exact (ti_rfl u11)
    refine go_invV (pc := 15) (sl := 0) (s_X3_blame l (d + 0) hv5 1 (by rw [show (1 : Int32).toInt = 1 from (ti_c (v := 1) (a := 1) (by decide))]; omega) (by rw [show (1 : Int32).toInt = 1 from (ti_c (v := 1) (a := 1) (by decide))]; omega) v55 (by rw [show (v55 : Int32).toInt = u10.toInt from v55q]; omega) (by rw [show (v55 : Int32).toInt = u10.toInt from v55q]; omega)) mL_X3_101 iM_X3_blame sM_X3_blame (hv5.sh rfl) rfl rfl rfl (Nat.le_of_ble_eq_true rfl) (show d + 0 + 1 + 1 ≤ d + 2 by omega) (show 8 + (3 + 11) + 40 * (d + 0 + 1) ≤ 40 * (d + 2) by omega) (g_c0 hv5.ln) (Nat.le_of_ble_eq_true rfl) dX3_openBlock_15 ?_
    intro r h62 hq _
    obtain ⟨rfl, hv62, f63, f64, f65, f66, pt62⟩ := hq
    have pr62 : PR h → PR h62 := fun z => pt62 (pr5 z)
    try rw [show (1 : Int32).toInt = 1 from (ti_c (v := 1) (a := 1) (by decide))] at f63
    try rw [show (v55 : Int32).toInt = u10.toInt from v55q] at f63
    try rw [show (1 : Int32).toInt = 1 from (ti_c (v := 1) (a := 1) (by decide))] at f64
    try rw [show (v55 : Int32).toInt = u10.toInt from v55q] at f64
    try rw [show (1 : Int32).toInt = 1 from (ti_c (v := 1) (a := 1) (by decide))] at f65
    try rw [show (v55 : Int32).toInt = u10.toInt from v55q] at f65
    try rw [show (1 : Int32).toInt = 1 from (ti_c (v := 1) (a := 1) (by decide))] at f66
    try rw [show (v55 : Int32).toInt = u10.toInt from v55q] at f66
    obtain ⟨u67, u67w⟩ : ∃ v : Int32, v = h62.2.1 34 2 := ⟨_, rfl⟩
    have u67e : (h62.2.1 34 2).toInt = u67.toInt := by rw [u67w]
    have u67l : 0 ≤ u67.toInt := by rw [u67w]; exact (hv62.2.1 34 2).1
    have u67u : u67.toInt ≤ 500 := by rw [u67w]; exact (hv62.2.1 34 2).2
    obtain ⟨u68, u68w⟩ : ∃ v : Int32, v = h62.2.1 34 7 := ⟨_, rfl⟩
    have u68e : (h62.2.1 34 7).toInt = u68.toInt := by rw [u68w]
    have u68l : 0 ≤ u68.toInt := by rw [u68w]; exact (hv62.2.1 34 7).1
    have u68u : u68.toInt ≤ 7 := by rw [u68w]; exact (hv62.2.1 34 7).2
    refine go_goto (pc := 18) (tgt := 92) (by decide) dX3_openBlock_18 ?_
    have g69 : (0 : Int) ≤ (h62.2.1 34 2).toInt := (hv62.2.1 34 2).1
    have g70 : (h62.2.1 34 2).toInt ≤ 500 := (hv62.2.1 34 2).2
    have g71 : (0 : Int) ≤ (h62.2.1 34 7).toInt := (hv62.2.1 34 7).1
    have g72 : (h62.2.1 34 7).toInt ≤ 7 := (hv62.2.1 34 7).2
    have g73 : (h62.2.1 34 2).toInt = u67.toInt := by rw [← (show u67 = h62.2.1 34 2 from u67w)] <;> exact (ti_rfl u67)
    have g74 : (h62.2.1 34 7).toInt = u68.toInt := by rw [← (show u68 = h62.2.1 34 7 from u68w)] <;> exact (ti_rfl u68)
    exact go_lv rfl ((key 14)  h62 hv62 pr62 (by omega) (by omega) (by omega) (by omega) (by omega))
