section GX
variable {l : Launch} {own : String} {cc : ByteArray} {nL : Nat} {R : Room} {nm : String} {rt : Option FieldType} {n0 mc ms : Nat} {Xf : Nat → State → Prop} {Qf : Option Value → HP → Prop} {sl pc : Nat} {lv : List (Nat × Value)} {st : List Value} {h : HP}
theorem gx_iand {x y : Int32} (hd : decode cc pc = .ok (.iand, 1)) (k : ∀ v : Int32, v = x &&& y → Go l own cc nL R nm rt n0 mc ms Xf Qf sl (pc + 1) lv (.int v :: st) h) : Go l own cc nL R nm rt n0 mc ms Xf Qf sl pc lv (.int y :: .int x :: st) h := go_iand hd (k _ rfl)
theorem gx_ior {x y : Int32} (hd : decode cc pc = .ok (.ior, 1)) (k : ∀ v : Int32, v = x ||| y → Go l own cc nL R nm rt n0 mc ms Xf Qf sl (pc + 1) lv (.int v :: st) h) : Go l own cc nL R nm rt n0 mc ms Xf Qf sl pc lv (.int y :: .int x :: st) h := go_ior hd (k _ rfl)
theorem gx_ixor {x y : Int32} (hd : decode cc pc = .ok (.ixor, 1)) (k : ∀ v : Int32, v = x ^^^ y → Go l own cc nL R nm rt n0 mc ms Xf Qf sl (pc + 1) lv (.int v :: st) h) : Go l own cc nL R nm rt n0 mc ms Xf Qf sl pc lv (.int y :: .int x :: st) h := go_ixor hd (k _ rfl)
theorem gx_ishl {x y : Int32} (hd : decode cc pc = .ok (.ishl, 1)) (k : ∀ v : Int32, v = x <<< (y &&& 31) → Go l own cc nL R nm rt n0 mc ms Xf Qf sl (pc + 1) lv (.int v :: st) h) : Go l own cc nL R nm rt n0 mc ms Xf Qf sl pc lv (.int y :: .int x :: st) h := go_ishl hd (k _ rfl)
theorem gx_ishr {x y : Int32} (hd : decode cc pc = .ok (.ishr, 1)) (k : ∀ v : Int32, v = x >>> (y &&& 31) → Go l own cc nL R nm rt n0 mc ms Xf Qf sl (pc + 1) lv (.int v :: st) h) : Go l own cc nL R nm rt n0 mc ms Xf Qf sl pc lv (.int y :: .int x :: st) h := go_ishr hd (k _ rfl)
theorem gx_iushr {x y : Int32} (hd : decode cc pc = .ok (.iushr, 1)) (k : ∀ v : Int32, v = (x.toUInt32 >>> (y.toUInt32 &&& Int32.toUInt32 31)).toInt32 → Go l own cc nL R nm rt n0 mc ms Xf Qf sl (pc + 1) lv (.int v :: st) h) : Go l own cc nL R nm rt n0 mc ms Xf Qf sl pc lv (.int y :: .int x :: st) h := go_iushr hd (k _ rfl)
theorem gx_iadd {x y : Int32} (hd : decode cc pc = .ok (.iadd, 1)) (k : ∀ v : Int32, v = x + y → Go l own cc nL R nm rt n0 mc ms Xf Qf sl (pc + 1) lv (.int v :: st) h) : Go l own cc nL R nm rt n0 mc ms Xf Qf sl pc lv (.int y :: .int x :: st) h := go_iadd hd (k _ rfl)
theorem gx_isub {x y : Int32} (hd : decode cc pc = .ok (.isub, 1)) (k : ∀ v : Int32, v = x - y → Go l own cc nL R nm rt n0 mc ms Xf Qf sl (pc + 1) lv (.int v :: st) h) : Go l own cc nL R nm rt n0 mc ms Xf Qf sl pc lv (.int y :: .int x :: st) h := go_isub hd (k _ rfl)
theorem gx_lsub {x y : Int64} (hd : decode cc pc = .ok (.lsub, 1)) (k : ∀ v : Int64, v = x - y → Go l own cc nL R nm rt n0 mc ms Xf Qf sl (pc + 1) lv (.long v :: st) h) : Go l own cc nL R nm rt n0 mc ms Xf Qf sl pc lv (.long y :: .long x :: st) h := go_lsub hd (k _ rfl)
theorem gx_land {x y : Int64} (hd : decode cc pc = .ok (.land, 1)) (k : ∀ v : Int64, v = x &&& y → Go l own cc nL R nm rt n0 mc ms Xf Qf sl (pc + 1) lv (.long v :: st) h) : Go l own cc nL R nm rt n0 mc ms Xf Qf sl pc lv (.long y :: .long x :: st) h := go_land hd (k _ rfl)
theorem gx_lor {x y : Int64} (hd : decode cc pc = .ok (.lor, 1)) (k : ∀ v : Int64, v = x ||| y → Go l own cc nL R nm rt n0 mc ms Xf Qf sl (pc + 1) lv (.long v :: st) h) : Go l own cc nL R nm rt n0 mc ms Xf Qf sl pc lv (.long y :: .long x :: st) h := go_lor hd (k _ rfl)
theorem gx_lxor {x y : Int64} (hd : decode cc pc = .ok (.lxor, 1)) (k : ∀ v : Int64, v = x ^^^ y → Go l own cc nL R nm rt n0 mc ms Xf Qf sl (pc + 1) lv (.long v :: st) h) : Go l own cc nL R nm rt n0 mc ms Xf Qf sl pc lv (.long y :: .long x :: st) h := go_lxor hd (k _ rfl)
theorem gx_lshl {x : Int64} {y : Int32} (hd : decode cc pc = .ok (.lshl, 1)) (k : ∀ v : Int64, v = x <<< (y.toInt64 &&& 63) → Go l own cc nL R nm rt n0 mc ms Xf Qf sl (pc + 1) lv (.long v :: st) h) : Go l own cc nL R nm rt n0 mc ms Xf Qf sl pc lv (.int y :: .long x :: st) h := go_lshl hd (k _ rfl)
theorem gx_lshr {x : Int64} {y : Int32} (hd : decode cc pc = .ok (.lshr, 1)) (k : ∀ v : Int64, v = x >>> (y.toInt64 &&& 63) → Go l own cc nL R nm rt n0 mc ms Xf Qf sl (pc + 1) lv (.long v :: st) h) : Go l own cc nL R nm rt n0 mc ms Xf Qf sl pc lv (.int y :: .long x :: st) h := go_lshr hd (k _ rfl)
theorem gx_lushr {x : Int64} {y : Int32} (hd : decode cc pc = .ok (.lushr, 1)) (k : ∀ v : Int64, v = (x.toUInt64 >>> (y.toInt64.toUInt64 &&& Int64.toUInt64 63)).toInt64 → Go l own cc nL R nm rt n0 mc ms Xf Qf sl (pc + 1) lv (.long v :: st) h) : Go l own cc nL R nm rt n0 mc ms Xf Qf sl pc lv (.int y :: .long x :: st) h := go_lushr hd (k _ rfl)
theorem gx_i2l {x : Int32} (hd : decode cc pc = .ok (.i2l, 1)) (k : ∀ v : Int64, v = x.toInt64 → Go l own cc nL R nm rt n0 mc ms Xf Qf sl (pc + 1) lv (.long v :: st) h) : Go l own cc nL R nm rt n0 mc ms Xf Qf sl pc lv (.int x :: st) h := go_i2l hd (k _ rfl)
theorem gx_l2i {x : Int64} (hd : decode cc pc = .ok (.l2i, 1)) (k : ∀ v : Int32, v = x.toInt32 → Go l own cc nL R nm rt n0 mc ms Xf Qf sl (pc + 1) lv (.int v :: st) h) : Go l own cc nL R nm rt n0 mc ms Xf Qf sl pc lv (.long x :: st) h := go_l2i hd (k _ rfl)
theorem gx_lcmp {x y : Int64} (hd : decode cc pc = .ok (.lcmp, 1)) (k : ∀ v : Int32, v = lg_cmp x y → Go l own cc nL R nm rt n0 mc ms Xf Qf sl (pc + 1) lv (.int v :: st) h) : Go l own cc nL R nm rt n0 mc ms Xf Qf sl pc lv (.long y :: .long x :: st) h := go_lcmp hd (k _ rfl)
end GX
/-- a sign lies here: the reference's reader stands on no blank -/
def NS (h : HP) (v : Int32) : Prop := (h.2.1 70 4).toInt < (h.2.1 70 3).toInt ∧ ¬ (h.2.1 72 (h.2.1 70 4).toInt.toNat).toInt = 32 ∧ ¬ (h.2.1 72 (h.2.1 70 4).toInt.toNat).toInt = 10 ∧ v = (h.2.1 72 (h.2.1 70 4).toInt.toNat) &&& 255
theorem NS.w {h g : HP} {c j : Nat} {x v : Int32} (hg : g = hI h c j x) (hc : 72 < c) (n : NS h v) : NS g v := by
  subst hg
  have e : ∀ c' j', c' ≤ 72 → (hI h c j x).2.1 c' j' = h.2.1 c' j' := fun c' j' q => by
    show (if c' = c ∧ j' = j then x else h.2.1 c' j') = _
    rw [if_neg (by omega)]
  unfold NS
  rw [e 70 4 (by omega), e 70 3 (by omega), e 72 _ (by omega)]
  exact n
theorem dX8_back_0 : decode cX8_back 0 = .ok (.aload_n 0, 1) := by decide +kernel
theorem dX8_back_1 : decode cX8_back 1 = .ok (.iload_n 1, 1) := by decide +kernel
theorem dX8_back_2 : decode cX8_back 2 = .ok (.invokevirtual 389, 3) := by decide +kernel
theorem dX8_back_5 : decode cX8_back 5 = .ok (.ifCond .eq 12, 3) := by decide +kernel
theorem dX8_back_8 : decode cX8_back 8 = .ok (.aload_n 0, 1) := by decide +kernel
theorem dX8_back_9 : decode cX8_back 9 = .ok (.getfield 133, 3) := by decide +kernel
theorem dX8_back_12 : decode cX8_back 12 = .ok (.iload_n 1, 1) := by decide +kernel
theorem dX8_back_13 : decode cX8_back 13 = .ok (.laload, 1) := by decide +kernel
theorem dX8_back_14 : decode cX8_back 14 = .ok (.goto 6, 3) := by decide +kernel
theorem dX8_back_17 : decode cX8_back 17 = .ok (.ldc2_w 329, 3) := by decide +kernel
theorem dX8_back_20 : decode cX8_back 20 = .ok (.lreturn, 1) := by decide +kernel
theorem dX8_begun_0 : decode cX8_begun 0 = .ok (.aload_n 0, 1) := by decide +kernel
theorem dX8_begun_1 : decode cX8_begun 1 = .ok (.iload_n 1, 1) := by decide +kernel
theorem dX8_begun_2 : decode cX8_begun 2 = .ok (.invokevirtual 395, 3) := by decide +kernel
theorem dX8_begun_5 : decode cX8_begun 5 = .ok (.ifCond .eq 12, 3) := by decide +kernel
theorem dX8_begun_8 : decode cX8_begun 8 = .ok (.aload_n 0, 1) := by decide +kernel
theorem dX8_begun_9 : decode cX8_begun 9 = .ok (.getfield 121, 3) := by decide +kernel
theorem dX8_begun_12 : decode cX8_begun 12 = .ok (.iload_n 1, 1) := by decide +kernel
theorem dX8_begun_13 : decode cX8_begun 13 = .ok (.laload, 1) := by decide +kernel
theorem dX8_begun_14 : decode cX8_begun 14 = .ok (.goto 4, 3) := by decide +kernel
theorem dX8_begun_17 : decode cX8_begun 17 = .ok (.lconst 0, 1) := by decide +kernel
theorem dX8_begun_18 : decode cX8_begun 18 = .ok (.lreturn, 1) := by decide +kernel
theorem dX8_between_0 : decode cX8_between 0 = .ok (.aload_n 0, 1) := by decide +kernel
theorem dX8_between_1 : decode cX8_between 1 = .ok (.iload_n 1, 1) := by decide +kernel
theorem dX8_between_2 : decode cX8_between 2 = .ok (.invokevirtual 389, 3) := by decide +kernel
theorem dX8_between_5 : decode cX8_between 5 = .ok (.ifCond .eq 26, 3) := by decide +kernel
theorem dX8_between_8 : decode cX8_between 8 = .ok (.aload_n 0, 1) := by decide +kernel
theorem dX8_between_9 : decode cX8_between 9 = .ok (.iload_n 2, 1) := by decide +kernel
theorem dX8_between_10 : decode cX8_between 10 = .ok (.invokevirtual 389, 3) := by decide +kernel
theorem dX8_between_13 : decode cX8_between 13 = .ok (.ifCond .eq 18, 3) := by decide +kernel
theorem dX8_between_16 : decode cX8_between 16 = .ok (.aload_n 0, 1) := by decide +kernel
theorem dX8_between_17 : decode cX8_between 17 = .ok (.iload_n 1, 1) := by decide +kernel
theorem dX8_between_18 : decode cX8_between 18 = .ok (.invokevirtual 398, 3) := by decide +kernel
theorem dX8_between_21 : decode cX8_between 21 = .ok (.aload_n 0, 1) := by decide +kernel
theorem dX8_between_22 : decode cX8_between 22 = .ok (.getfield 133, 3) := by decide +kernel
theorem dX8_between_25 : decode cX8_between 25 = .ok (.iload_n 2, 1) := by decide +kernel
theorem dX8_between_26 : decode cX8_between 26 = .ok (.laload, 1) := by decide +kernel
theorem dX8_between_27 : decode cX8_between 27 = .ok (.land, 1) := by decide +kernel
theorem dX8_between_28 : decode cX8_between 28 = .ok (.goto 6, 3) := by decide +kernel
theorem dX8_between_31 : decode cX8_between 31 = .ok (.ldc2_w 329, 3) := by decide +kernel
theorem dX8_between_34 : decode cX8_between 34 = .ok (.lreturn, 1) := by decide +kernel
theorem dX8_calls_0 : decode cX8_calls 0 = .ok (.iconst 0, 1) := by decide +kernel
theorem dX8_calls_1 : decode cX8_calls 1 = .ok (.istore_n 1, 1) := by decide +kernel
theorem dX8_calls_2 : decode cX8_calls 2 = .ok (.iconst 0, 1) := by decide +kernel
theorem dX8_calls_3 : decode cX8_calls 3 = .ok (.istore_n 2, 1) := by decide +kernel
theorem dX8_calls_4 : decode cX8_calls 4 = .ok (.iload_n 2, 1) := by decide +kernel
theorem dX8_calls_5 : decode cX8_calls 5 = .ok (.aload_n 0, 1) := by decide +kernel
theorem dX8_calls_6 : decode cX8_calls 6 = .ok (.getfield 23, 3) := by decide +kernel
theorem dX8_calls_9 : decode cX8_calls 9 = .ok (.aload_n 0, 1) := by decide +kernel
theorem dX8_calls_10 : decode cX8_calls 10 = .ok (.getfield 228, 3) := by decide +kernel
theorem dX8_calls_13 : decode cX8_calls 13 = .ok (.iaload, 1) := by decide +kernel
theorem dX8_calls_14 : decode cX8_calls 14 = .ok (.if_icmp .ge 26, 3) := by decide +kernel
theorem dX8_calls_17 : decode cX8_calls 17 = .ok (.iload_n 1, 1) := by decide +kernel
theorem dX8_calls_18 : decode cX8_calls 18 = .ok (.aload_n 0, 1) := by decide +kernel
theorem dX8_calls_19 : decode cX8_calls 19 = .ok (.iload_n 2, 1) := by decide +kernel
theorem dX8_calls_20 : decode cX8_calls 20 = .ok (.invokevirtual 271, 3) := by decide +kernel
theorem dX8_calls_23 : decode cX8_calls 23 = .ok (.iconst 1, 1) := by decide +kernel
theorem dX8_calls_24 : decode cX8_calls 24 = .ok (.if_icmp .ne 7, 3) := by decide +kernel
theorem dX8_calls_27 : decode cX8_calls 27 = .ok (.iconst 1, 1) := by decide +kernel
theorem dX8_calls_28 : decode cX8_calls 28 = .ok (.goto 4, 3) := by decide +kernel
theorem dX8_calls_31 : decode cX8_calls 31 = .ok (.iconst 0, 1) := by decide +kernel
theorem dX8_calls_32 : decode cX8_calls 32 = .ok (.iadd, 1) := by decide +kernel
theorem dX8_calls_33 : decode cX8_calls 33 = .ok (.istore_n 1, 1) := by decide +kernel
theorem dX8_calls_34 : decode cX8_calls 34 = .ok (.iinc 2 1, 3) := by decide +kernel
theorem dX8_calls_37 : decode cX8_calls 37 = .ok (.goto (-33), 3) := by decide +kernel
theorem dX8_calls_40 : decode cX8_calls 40 = .ok (.iload_n 1, 1) := by decide +kernel
theorem dX8_calls_41 : decode cX8_calls 41 = .ok (.ireturn, 1) := by decide +kernel
theorem dX8_empties_0 : decode cX8_empties 0 = .ok (.iconst 0, 1) := by decide +kernel
theorem dX8_empties_1 : decode cX8_empties 1 = .ok (.istore_n 1, 1) := by decide +kernel
theorem dX8_empties_2 : decode cX8_empties 2 = .ok (.iload_n 1, 1) := by decide +kernel
theorem dX8_empties_3 : decode cX8_empties 3 = .ok (.bipush 19, 2) := by decide +kernel
theorem dX8_empties_5 : decode cX8_empties 5 = .ok (.if_icmp .ge 16, 3) := by decide +kernel
theorem dX8_empties_8 : decode cX8_empties 8 = .ok (.aload_n 0, 1) := by decide +kernel
theorem dX8_empties_9 : decode cX8_empties 9 = .ok (.getfield 127, 3) := by decide +kernel
theorem dX8_empties_12 : decode cX8_empties 12 = .ok (.iload_n 1, 1) := by decide +kernel
theorem dX8_empties_13 : decode cX8_empties 13 = .ok (.iconst 0, 1) := by decide +kernel
theorem dX8_empties_14 : decode cX8_empties 14 = .ok (.iastore, 1) := by decide +kernel
theorem dX8_empties_15 : decode cX8_empties 15 = .ok (.iinc 1 1, 3) := by decide +kernel
theorem dX8_empties_18 : decode cX8_empties 18 = .ok (.goto (-16), 3) := by decide +kernel
theorem dX8_empties_21 : decode cX8_empties 21 = .ok (.aload_n 0, 1) := by decide +kernel
theorem dX8_empties_22 : decode cX8_empties 22 = .ok (.iconst 0, 1) := by decide +kernel
theorem dX8_empties_23 : decode cX8_empties 23 = .ok (.putfield 344, 3) := by decide +kernel
theorem dX8_empties_26 : decode cX8_empties 26 = .ok (.return_, 1) := by decide +kernel
theorem dX8_ended_0 : decode cX8_ended 0 = .ok (.aload_n 0, 1) := by decide +kernel
theorem dX8_ended_1 : decode cX8_ended 1 = .ok (.getfield 243, 3) := by decide +kernel
theorem dX8_ended_4 : decode cX8_ended 4 = .ok (.ifCond .eq 10, 3) := by decide +kernel
theorem dX8_ended_7 : decode cX8_ended 7 = .ok (.aload_n 0, 1) := by decide +kernel
theorem dX8_ended_8 : decode cX8_ended 8 = .ok (.getfield 247, 3) := by decide +kernel
theorem dX8_ended_11 : decode cX8_ended 11 = .ok (.ifCond .ne 5, 3) := by decide +kernel
theorem dX8_ended_14 : decode cX8_ended 14 = .ok (.iconst (-1), 1) := by decide +kernel
theorem dX8_ended_15 : decode cX8_ended 15 = .ok (.ireturn, 1) := by decide +kernel
theorem dX8_ended_16 : decode cX8_ended 16 = .ok (.iload_n 1, 1) := by decide +kernel
theorem dX8_ended_17 : decode cX8_ended 17 = .ok (.tableswitch 67 0 6 #[43, 48, 53, 58, 58, 58, 58], 43) := by decide +kernel
theorem dX8_ended_60 : decode cX8_ended 60 = .ok (.aload_n 0, 1) := by decide +kernel
theorem dX8_ended_61 : decode cX8_ended 61 = .ok (.getfield 459, 3) := by decide +kernel
theorem dX8_ended_64 : decode cX8_ended 64 = .ok (.ireturn, 1) := by decide +kernel
theorem dX8_ended_65 : decode cX8_ended 65 = .ok (.aload_n 0, 1) := by decide +kernel
theorem dX8_ended_66 : decode cX8_ended 66 = .ok (.getfield 434, 3) := by decide +kernel
theorem dX8_ended_69 : decode cX8_ended 69 = .ok (.ireturn, 1) := by decide +kernel
theorem dX8_ended_70 : decode cX8_ended 70 = .ok (.aload_n 0, 1) := by decide +kernel
theorem dX8_ended_71 : decode cX8_ended 71 = .ok (.getfield 437, 3) := by decide +kernel
theorem dX8_ended_74 : decode cX8_ended 74 = .ok (.ireturn, 1) := by decide +kernel
theorem dX8_ended_75 : decode cX8_ended 75 = .ok (.aload_n 0, 1) := by decide +kernel
theorem dX8_ended_76 : decode cX8_ended 76 = .ok (.getfield 139, 3) := by decide +kernel
theorem dX8_ended_79 : decode cX8_ended 79 = .ok (.iload_n 1, 1) := by decide +kernel
theorem dX8_ended_80 : decode cX8_ended 80 = .ok (.iconst 3, 1) := by decide +kernel
theorem dX8_ended_81 : decode cX8_ended 81 = .ok (.isub, 1) := by decide +kernel
theorem dX8_ended_82 : decode cX8_ended 82 = .ok (.iaload, 1) := by decide +kernel
theorem dX8_ended_83 : decode cX8_ended 83 = .ok (.ireturn, 1) := by decide +kernel
theorem dX8_ended_84 : decode cX8_ended 84 = .ok (.iconst (-1), 1) := by decide +kernel
theorem dX8_ended_85 : decode cX8_ended 85 = .ok (.ireturn, 1) := by decide +kernel
theorem dX8_fails_0 : decode cX8_fails 0 = .ok (.aload_n 0, 1) := by decide +kernel
theorem dX8_fails_1 : decode cX8_fails 1 = .ok (.getfield 169, 3) := by decide +kernel
theorem dX8_fails_4 : decode cX8_fails 4 = .ok (.ifCond .ne 16, 3) := by decide +kernel
theorem dX8_fails_7 : decode cX8_fails 7 = .ok (.aload_n 0, 1) := by decide +kernel
theorem dX8_fails_8 : decode cX8_fails 8 = .ok (.iload_n 1, 1) := by decide +kernel
theorem dX8_fails_9 : decode cX8_fails 9 = .ok (.bipush 8, 2) := by decide +kernel
theorem dX8_fails_11 : decode cX8_fails 11 = .ok (.aload_n 0, 1) := by decide +kernel
theorem dX8_fails_12 : decode cX8_fails 12 = .ok (.getfield 163, 3) := by decide +kernel
theorem dX8_fails_15 : decode cX8_fails 15 = .ok (.imul, 1) := by decide +kernel
theorem dX8_fails_16 : decode cX8_fails 16 = .ok (.iadd, 1) := by decide +kernel
theorem dX8_fails_17 : decode cX8_fails 17 = .ok (.putfield 169, 3) := by decide +kernel
theorem dX8_fails_20 : decode cX8_fails 20 = .ok (.return_, 1) := by decide +kernel
theorem dX8_fault_0 : decode cX8_fault 0 = .ok (.aload_n 0, 1) := by decide +kernel
theorem dX8_fault_1 : decode cX8_fault 1 = .ok (.getfield 169, 3) := by decide +kernel
theorem dX8_fault_4 : decode cX8_fault 4 = .ok (.ireturn, 1) := by decide +kernel
theorem dX8_forth_0 : decode cX8_forth 0 = .ok (.aload_n 0, 1) := by decide +kernel
theorem dX8_forth_1 : decode cX8_forth 1 = .ok (.iload_n 1, 1) := by decide +kernel
theorem dX8_forth_2 : decode cX8_forth 2 = .ok (.invokevirtual 389, 3) := by decide +kernel
theorem dX8_forth_5 : decode cX8_forth 5 = .ok (.ifCond .eq 11, 3) := by decide +kernel
theorem dX8_forth_8 : decode cX8_forth 8 = .ok (.aload_n 0, 1) := by decide +kernel
theorem dX8_forth_9 : decode cX8_forth 9 = .ok (.iload_n 1, 1) := by decide +kernel
theorem dX8_forth_10 : decode cX8_forth 10 = .ok (.invokevirtual 398, 3) := by decide +kernel
theorem dX8_forth_13 : decode cX8_forth 13 = .ok (.goto 6, 3) := by decide +kernel
theorem dX8_forth_16 : decode cX8_forth 16 = .ok (.ldc2_w 329, 3) := by decide +kernel
theorem dX8_forth_19 : decode cX8_forth 19 = .ok (.lreturn, 1) := by decide +kernel
theorem dX8_forthOf_0 : decode cX8_forthOf 0 = .ok (.lconst 0, 1) := by decide +kernel
theorem dX8_forthOf_1 : decode cX8_forthOf 1 = .ok (.lstore_n 2, 1) := by decide +kernel
theorem dX8_forthOf_2 : decode cX8_forthOf 2 = .ok (.iconst 0, 1) := by decide +kernel
theorem dX8_forthOf_3 : decode cX8_forthOf 3 = .ok (.istore 4, 2) := by decide +kernel
theorem dX8_forthOf_5 : decode cX8_forthOf 5 = .ok (.iload 4, 2) := by decide +kernel
theorem dX8_forthOf_7 : decode cX8_forthOf 7 = .ok (.aload_n 0, 1) := by decide +kernel
theorem dX8_forthOf_8 : decode cX8_forthOf 8 = .ok (.getfield 23, 3) := by decide +kernel
theorem dX8_forthOf_11 : decode cX8_forthOf 11 = .ok (.aload_n 0, 1) := by decide +kernel
theorem dX8_forthOf_12 : decode cX8_forthOf 12 = .ok (.getfield 228, 3) := by decide +kernel
theorem dX8_forthOf_15 : decode cX8_forthOf 15 = .ok (.iaload, 1) := by decide +kernel
theorem dX8_forthOf_16 : decode cX8_forthOf 16 = .ok (.if_icmp .ge 34, 3) := by decide +kernel
theorem dX8_forthOf_19 : decode cX8_forthOf 19 = .ok (.lload_n 2, 1) := by decide +kernel
theorem dX8_forthOf_20 : decode cX8_forthOf 20 = .ok (.aload_n 0, 1) := by decide +kernel
theorem dX8_forthOf_21 : decode cX8_forthOf 21 = .ok (.getfield 133, 3) := by decide +kernel
theorem dX8_forthOf_24 : decode cX8_forthOf 24 = .ok (.iload 4, 2) := by decide +kernel
theorem dX8_forthOf_26 : decode cX8_forthOf 26 = .ok (.laload, 1) := by decide +kernel
theorem dX8_forthOf_27 : decode cX8_forthOf 27 = .ok (.iload_n 1, 1) := by decide +kernel
theorem dX8_forthOf_28 : decode cX8_forthOf 28 = .ok (.invokestatic 280, 3) := by decide +kernel
theorem dX8_forthOf_31 : decode cX8_forthOf 31 = .ok (.ifCond .eq 10, 3) := by decide +kernel
theorem dX8_forthOf_34 : decode cX8_forthOf 34 = .ok (.lconst 1, 1) := by decide +kernel
theorem dX8_forthOf_35 : decode cX8_forthOf 35 = .ok (.iload 4, 2) := by decide +kernel
theorem dX8_forthOf_37 : decode cX8_forthOf 37 = .ok (.lshl, 1) := by decide +kernel
theorem dX8_forthOf_38 : decode cX8_forthOf 38 = .ok (.goto 4, 3) := by decide +kernel
theorem dX8_forthOf_41 : decode cX8_forthOf 41 = .ok (.lconst 0, 1) := by decide +kernel
theorem dX8_forthOf_42 : decode cX8_forthOf 42 = .ok (.lor, 1) := by decide +kernel
theorem dX8_forthOf_43 : decode cX8_forthOf 43 = .ok (.lstore_n 2, 1) := by decide +kernel
theorem dX8_forthOf_44 : decode cX8_forthOf 44 = .ok (.iinc 4 1, 3) := by decide +kernel
theorem dX8_forthOf_47 : decode cX8_forthOf 47 = .ok (.goto (-42), 3) := by decide +kernel
theorem dX8_forthOf_50 : decode cX8_forthOf 50 = .ok (.lload_n 2, 1) := by decide +kernel
theorem dX8_forthOf_51 : decode cX8_forthOf 51 = .ok (.lreturn, 1) := by decide +kernel
theorem dX8_hang_0 : decode cX8_hang 0 = .ok (.aload_n 0, 1) := by decide +kernel
theorem dX8_hang_1 : decode cX8_hang 1 = .ok (.getfield 108, 3) := by decide +kernel
theorem dX8_hang_4 : decode cX8_hang 4 = .ok (.bipush 19, 2) := by decide +kernel
theorem dX8_hang_6 : decode cX8_hang 6 = .ok (.iload_n 1, 1) := by decide +kernel
theorem dX8_hang_7 : decode cX8_hang 7 = .ok (.imul, 1) := by decide +kernel
theorem dX8_hang_8 : decode cX8_hang 8 = .ok (.iload_n 2, 1) := by decide +kernel
theorem dX8_hang_9 : decode cX8_hang 9 = .ok (.bipush 32, 2) := by decide +kernel
theorem dX8_hang_11 : decode cX8_hang 11 = .ok (.idiv, 1) := by decide +kernel
theorem dX8_hang_12 : decode cX8_hang 12 = .ok (.iadd, 1) := by decide +kernel
theorem dX8_hang_13 : decode cX8_hang 13 = .ok (.dup2, 1) := by decide +kernel
theorem dX8_hang_14 : decode cX8_hang 14 = .ok (.iaload, 1) := by decide +kernel
theorem dX8_hang_15 : decode cX8_hang 15 = .ok (.iconst 1, 1) := by decide +kernel
theorem dX8_hang_16 : decode cX8_hang 16 = .ok (.iload_n 2, 1) := by decide +kernel
theorem dX8_hang_17 : decode cX8_hang 17 = .ok (.bipush 32, 2) := by decide +kernel
theorem dX8_hang_19 : decode cX8_hang 19 = .ok (.irem, 1) := by decide +kernel
theorem dX8_hang_20 : decode cX8_hang 20 = .ok (.ishl, 1) := by decide +kernel
theorem dX8_hang_21 : decode cX8_hang 21 = .ok (.ior, 1) := by decide +kernel
theorem dX8_hang_22 : decode cX8_hang 22 = .ok (.iastore, 1) := by decide +kernel
theorem dX8_hang_23 : decode cX8_hang 23 = .ok (.return_, 1) := by decide +kernel
theorem dX8_hangs_0 : decode cX8_hangs 0 = .ok (.aload_n 0, 1) := by decide +kernel
theorem dX8_hangs_1 : decode cX8_hangs 1 = .ok (.iload_n 1, 1) := by decide +kernel
theorem dX8_hangs_2 : decode cX8_hangs 2 = .ok (.invokevirtual 389, 3) := by decide +kernel
theorem dX8_hangs_5 : decode cX8_hangs 5 = .ok (.ifCond .eq 11, 3) := by decide +kernel
theorem dX8_hangs_8 : decode cX8_hangs 8 = .ok (.aload_n 0, 1) := by decide +kernel
theorem dX8_hangs_9 : decode cX8_hangs 9 = .ok (.iload_n 2, 1) := by decide +kernel
theorem dX8_hangs_10 : decode cX8_hangs 10 = .ok (.invokevirtual 389, 3) := by decide +kernel
theorem dX8_hangs_13 : decode cX8_hangs 13 = .ok (.ifCond .ne 5, 3) := by decide +kernel
theorem dX8_hangs_16 : decode cX8_hangs 16 = .ok (.iconst 0, 1) := by decide +kernel
theorem dX8_hangs_17 : decode cX8_hangs 17 = .ok (.ireturn, 1) := by decide +kernel
theorem dX8_hangs_18 : decode cX8_hangs 18 = .ok (.aload_n 0, 1) := by decide +kernel
theorem dX8_hangs_19 : decode cX8_hangs 19 = .ok (.getfield 111, 3) := by decide +kernel
theorem dX8_hangs_22 : decode cX8_hangs 22 = .ok (.iload_n 1, 1) := by decide +kernel
theorem dX8_hangs_23 : decode cX8_hangs 23 = .ok (.laload, 1) := by decide +kernel
theorem dX8_hangs_24 : decode cX8_hangs 24 = .ok (.iload_n 2, 1) := by decide +kernel
theorem dX8_hangs_25 : decode cX8_hangs 25 = .ok (.invokestatic 280, 3) := by decide +kernel
theorem dX8_hangs_28 : decode cX8_hangs 28 = .ok (.ifCond .eq 7, 3) := by decide +kernel
theorem dX8_hangs_31 : decode cX8_hangs 31 = .ok (.iconst 1, 1) := by decide +kernel
theorem dX8_hangs_32 : decode cX8_hangs 32 = .ok (.goto 4, 3) := by decide +kernel
theorem dX8_hangs_35 : decode cX8_hangs 35 = .ok (.iconst 0, 1) := by decide +kernel
theorem dX8_hangs_36 : decode cX8_hangs 36 = .ok (.aload_n 0, 1) := by decide +kernel
theorem dX8_hangs_37 : decode cX8_hangs 37 = .ok (.getfield 115, 3) := by decide +kernel
theorem dX8_hangs_40 : decode cX8_hangs 40 = .ok (.iload_n 1, 1) := by decide +kernel
theorem dX8_hangs_41 : decode cX8_hangs 41 = .ok (.laload, 1) := by decide +kernel
theorem dX8_hangs_42 : decode cX8_hangs 42 = .ok (.iload_n 2, 1) := by decide +kernel
theorem dX8_hangs_43 : decode cX8_hangs 43 = .ok (.invokestatic 280, 3) := by decide +kernel
theorem dX8_hangs_46 : decode cX8_hangs 46 = .ok (.ifCond .eq 7, 3) := by decide +kernel
theorem dX8_hangs_49 : decode cX8_hangs 49 = .ok (.iconst 2, 1) := by decide +kernel
theorem dX8_hangs_50 : decode cX8_hangs 50 = .ok (.goto 4, 3) := by decide +kernel
theorem dX8_hangs_53 : decode cX8_hangs 53 = .ok (.iconst 0, 1) := by decide +kernel
theorem dX8_hangs_54 : decode cX8_hangs 54 = .ok (.iadd, 1) := by decide +kernel
theorem dX8_hangs_55 : decode cX8_hangs 55 = .ok (.ireturn, 1) := by decide +kernel
theorem dX8_has_0 : decode cX8_has 0 = .ok (.lload_n 0, 1) := by decide +kernel
theorem dX8_has_1 : decode cX8_has 1 = .ok (.iload_n 2, 1) := by decide +kernel
theorem dX8_has_2 : decode cX8_has 2 = .ok (.lshr, 1) := by decide +kernel
theorem dX8_has_3 : decode cX8_has 3 = .ok (.lconst 1, 1) := by decide +kernel
theorem dX8_has_4 : decode cX8_has 4 = .ok (.land, 1) := by decide +kernel
theorem dX8_has_5 : decode cX8_has 5 = .ok (.lconst 1, 1) := by decide +kernel
theorem dX8_has_6 : decode cX8_has 6 = .ok (.lcmp, 1) := by decide +kernel
theorem dX8_has_7 : decode cX8_has 7 = .ok (.ifCond .ne 7, 3) := by decide +kernel
theorem dX8_has_10 : decode cX8_has 10 = .ok (.iconst 1, 1) := by decide +kernel
theorem dX8_has_11 : decode cX8_has 11 = .ok (.goto 4, 3) := by decide +kernel
theorem dX8_has_14 : decode cX8_has 14 = .ok (.iconst 0, 1) := by decide +kernel
theorem dX8_has_15 : decode cX8_has 15 = .ok (.ireturn, 1) := by decide +kernel
theorem dX8_here_0 : decode cX8_here 0 = .ok (.aload_n 0, 1) := by decide +kernel
theorem dX8_here_1 : decode cX8_here 1 = .ok (.getfield 163, 3) := by decide +kernel
theorem dX8_here_4 : decode cX8_here 4 = .ok (.aload_n 0, 1) := by decide +kernel
theorem dX8_here_5 : decode cX8_here 5 = .ok (.getfield 166, 3) := by decide +kernel
theorem dX8_here_8 : decode cX8_here 8 = .ok (.if_icmp .ge 44, 3) := by decide +kernel
theorem dX8_here_11 : decode cX8_here 11 = .ok (.aload_n 0, 1) := by decide +kernel
theorem dX8_here_12 : decode cX8_here 12 = .ok (.getfield 13, 3) := by decide +kernel
theorem dX8_here_15 : decode cX8_here 15 = .ok (.aload_n 0, 1) := by decide +kernel
theorem dX8_here_16 : decode cX8_here 16 = .ok (.getfield 163, 3) := by decide +kernel
theorem dX8_here_19 : decode cX8_here 19 = .ok (.baload, 1) := by decide +kernel
theorem dX8_here_20 : decode cX8_here 20 = .ok (.bipush 32, 2) := by decide +kernel
theorem dX8_here_22 : decode cX8_here 22 = .ok (.if_icmp .eq 17, 3) := by decide +kernel
theorem dX8_here_25 : decode cX8_here 25 = .ok (.aload_n 0, 1) := by decide +kernel
theorem dX8_here_26 : decode cX8_here 26 = .ok (.getfield 13, 3) := by decide +kernel
theorem dX8_here_29 : decode cX8_here 29 = .ok (.aload_n 0, 1) := by decide +kernel
theorem dX8_here_30 : decode cX8_here 30 = .ok (.getfield 163, 3) := by decide +kernel
theorem dX8_here_33 : decode cX8_here 33 = .ok (.baload, 1) := by decide +kernel
theorem dX8_here_34 : decode cX8_here 34 = .ok (.bipush 10, 2) := by decide +kernel
theorem dX8_here_36 : decode cX8_here 36 = .ok (.if_icmp .ne 16, 3) := by decide +kernel
theorem dX8_here_39 : decode cX8_here 39 = .ok (.aload_n 0, 1) := by decide +kernel
theorem dX8_here_40 : decode cX8_here 40 = .ok (.dup, 1) := by decide +kernel
theorem dX8_here_41 : decode cX8_here 41 = .ok (.getfield 163, 3) := by decide +kernel
theorem dX8_here_44 : decode cX8_here 44 = .ok (.iconst 1, 1) := by decide +kernel
theorem dX8_here_45 : decode cX8_here 45 = .ok (.iadd, 1) := by decide +kernel
theorem dX8_here_46 : decode cX8_here 46 = .ok (.putfield 163, 3) := by decide +kernel
theorem dX8_here_49 : decode cX8_here 49 = .ok (.goto (-49), 3) := by decide +kernel
theorem dX8_here_52 : decode cX8_here 52 = .ok (.aload_n 0, 1) := by decide +kernel
theorem dX8_here_53 : decode cX8_here 53 = .ok (.getfield 163, 3) := by decide +kernel
theorem dX8_here_56 : decode cX8_here 56 = .ok (.aload_n 0, 1) := by decide +kernel
theorem dX8_here_57 : decode cX8_here 57 = .ok (.getfield 166, 3) := by decide +kernel
theorem dX8_here_60 : decode cX8_here 60 = .ok (.if_icmp .ge 19, 3) := by decide +kernel
theorem dX8_here_63 : decode cX8_here 63 = .ok (.aload_n 0, 1) := by decide +kernel
theorem dX8_here_64 : decode cX8_here 64 = .ok (.getfield 13, 3) := by decide +kernel
theorem dX8_here_67 : decode cX8_here 67 = .ok (.aload_n 0, 1) := by decide +kernel
theorem dX8_here_68 : decode cX8_here 68 = .ok (.getfield 163, 3) := by decide +kernel
theorem dX8_here_71 : decode cX8_here 71 = .ok (.baload, 1) := by decide +kernel
theorem dX8_here_72 : decode cX8_here 72 = .ok (.sipush 255, 3) := by decide +kernel
theorem dX8_here_75 : decode cX8_here 75 = .ok (.iand, 1) := by decide +kernel
theorem dX8_here_76 : decode cX8_here 76 = .ok (.goto 4, 3) := by decide +kernel
theorem dX8_here_79 : decode cX8_here 79 = .ok (.iconst (-1), 1) := by decide +kernel
theorem dX8_here_80 : decode cX8_here 80 = .ok (.ireturn, 1) := by decide +kernel
theorem dX8_inSet_0 : decode cX8_inSet 0 = .ok (.lconst 0, 1) := by decide +kernel
theorem dX8_inSet_1 : decode cX8_inSet 1 = .ok (.lstore_n 1, 1) := by decide +kernel
theorem dX8_inSet_2 : decode cX8_inSet 2 = .ok (.iconst 0, 1) := by decide +kernel
theorem dX8_inSet_3 : decode cX8_inSet 3 = .ok (.istore_n 3, 1) := by decide +kernel
theorem dX8_inSet_4 : decode cX8_inSet 4 = .ok (.iload_n 3, 1) := by decide +kernel
theorem dX8_inSet_5 : decode cX8_inSet 5 = .ok (.aload_n 0, 1) := by decide +kernel
theorem dX8_inSet_6 : decode cX8_inSet 6 = .ok (.getfield 23, 3) := by decide +kernel
theorem dX8_inSet_9 : decode cX8_inSet 9 = .ok (.aload_n 0, 1) := by decide +kernel
theorem dX8_inSet_10 : decode cX8_inSet 10 = .ok (.getfield 187, 3) := by decide +kernel
theorem dX8_inSet_13 : decode cX8_inSet 13 = .ok (.iaload, 1) := by decide +kernel
theorem dX8_inSet_14 : decode cX8_inSet 14 = .ok (.if_icmp .ge 44, 3) := by decide +kernel
theorem dX8_inSet_17 : decode cX8_inSet 17 = .ok (.iconst 0, 1) := by decide +kernel
theorem dX8_inSet_18 : decode cX8_inSet 18 = .ok (.istore 4, 2) := by decide +kernel
theorem dX8_inSet_20 : decode cX8_inSet 20 = .ok (.iload 4, 2) := by decide +kernel
theorem dX8_inSet_22 : decode cX8_inSet 22 = .ok (.bipush 13, 2) := by decide +kernel
theorem dX8_inSet_24 : decode cX8_inSet 24 = .ok (.if_icmp .ge 28, 3) := by decide +kernel
theorem dX8_inSet_27 : decode cX8_inSet 27 = .ok (.aload_n 0, 1) := by decide +kernel
theorem dX8_inSet_28 : decode cX8_inSet 28 = .ok (.iload_n 3, 1) := by decide +kernel
theorem dX8_inSet_29 : decode cX8_inSet 29 = .ok (.iload 4, 2) := by decide +kernel
theorem dX8_inSet_31 : decode cX8_inSet 31 = .ok (.invokestatic 291, 3) := by decide +kernel
theorem dX8_inSet_34 : decode cX8_inSet 34 = .ok (.invokevirtual 341, 3) := by decide +kernel
theorem dX8_inSet_37 : decode cX8_inSet 37 = .ok (.ifCond .eq 9, 3) := by decide +kernel
theorem dX8_inSet_40 : decode cX8_inSet 40 = .ok (.lload_n 1, 1) := by decide +kernel
theorem dX8_inSet_41 : decode cX8_inSet 41 = .ok (.lconst 1, 1) := by decide +kernel
theorem dX8_inSet_42 : decode cX8_inSet 42 = .ok (.iload_n 3, 1) := by decide +kernel
theorem dX8_inSet_43 : decode cX8_inSet 43 = .ok (.lshl, 1) := by decide +kernel
theorem dX8_inSet_44 : decode cX8_inSet 44 = .ok (.lor, 1) := by decide +kernel
theorem dX8_inSet_45 : decode cX8_inSet 45 = .ok (.lstore_n 1, 1) := by decide +kernel
theorem dX8_inSet_46 : decode cX8_inSet 46 = .ok (.iinc 4 1, 3) := by decide +kernel
theorem dX8_inSet_49 : decode cX8_inSet 49 = .ok (.goto (-29), 3) := by decide +kernel
theorem dX8_inSet_52 : decode cX8_inSet 52 = .ok (.iinc 3 1, 3) := by decide +kernel
theorem dX8_inSet_55 : decode cX8_inSet 55 = .ok (.goto (-51), 3) := by decide +kernel
theorem dX8_inSet_58 : decode cX8_inSet 58 = .ok (.lload_n 1, 1) := by decide +kernel
theorem dX8_inSet_59 : decode cX8_inSet 59 = .ok (.lreturn, 1) := by decide +kernel
theorem dX8_isAnyHung_0 : decode cX8_isAnyHung 0 = .ok (.iconst 0, 1) := by decide +kernel
theorem dX8_isAnyHung_1 : decode cX8_isAnyHung 1 = .ok (.istore_n 3, 1) := by decide +kernel
theorem dX8_isAnyHung_2 : decode cX8_isAnyHung 2 = .ok (.iload_n 3, 1) := by decide +kernel
theorem dX8_isAnyHung_3 : decode cX8_isAnyHung 3 = .ok (.bipush 13, 2) := by decide +kernel
theorem dX8_isAnyHung_5 : decode cX8_isAnyHung 5 = .ok (.if_icmp .ge 45, 3) := by decide +kernel
theorem dX8_isAnyHung_8 : decode cX8_isAnyHung 8 = .ok (.iconst 0, 1) := by decide +kernel
theorem dX8_isAnyHung_9 : decode cX8_isAnyHung 9 = .ok (.istore 4, 2) := by decide +kernel
theorem dX8_isAnyHung_11 : decode cX8_isAnyHung 11 = .ok (.iload 4, 2) := by decide +kernel
theorem dX8_isAnyHung_13 : decode cX8_isAnyHung 13 = .ok (.bipush 13, 2) := by decide +kernel
theorem dX8_isAnyHung_15 : decode cX8_isAnyHung 15 = .ok (.if_icmp .ge 29, 3) := by decide +kernel
theorem dX8_isAnyHung_18 : decode cX8_isAnyHung 18 = .ok (.aload_n 0, 1) := by decide +kernel
theorem dX8_isAnyHung_19 : decode cX8_isAnyHung 19 = .ok (.iload_n 1, 1) := by decide +kernel
theorem dX8_isAnyHung_20 : decode cX8_isAnyHung 20 = .ok (.iload_n 3, 1) := by decide +kernel
theorem dX8_isAnyHung_21 : decode cX8_isAnyHung 21 = .ok (.invokestatic 291, 3) := by decide +kernel
theorem dX8_isAnyHung_24 : decode cX8_isAnyHung 24 = .ok (.iload_n 2, 1) := by decide +kernel
theorem dX8_isAnyHung_25 : decode cX8_isAnyHung 25 = .ok (.iload 4, 2) := by decide +kernel
theorem dX8_isAnyHung_27 : decode cX8_isAnyHung 27 = .ok (.invokestatic 291, 3) := by decide +kernel
theorem dX8_isAnyHung_30 : decode cX8_isAnyHung 30 = .ok (.invokevirtual 326, 3) := by decide +kernel
theorem dX8_isAnyHung_33 : decode cX8_isAnyHung 33 = .ok (.ifCond .eq 5, 3) := by decide +kernel
theorem dX8_isAnyHung_36 : decode cX8_isAnyHung 36 = .ok (.iconst 1, 1) := by decide +kernel
theorem dX8_isAnyHung_37 : decode cX8_isAnyHung 37 = .ok (.ireturn, 1) := by decide +kernel
theorem dX8_isAnyHung_38 : decode cX8_isAnyHung 38 = .ok (.iinc 4 1, 3) := by decide +kernel
theorem dX8_isAnyHung_41 : decode cX8_isAnyHung 41 = .ok (.goto (-30), 3) := by decide +kernel
theorem dX8_isAnyHung_44 : decode cX8_isAnyHung 44 = .ok (.iinc 3 1, 3) := by decide +kernel
theorem dX8_isAnyHung_47 : decode cX8_isAnyHung 47 = .ok (.goto (-45), 3) := by decide +kernel
theorem dX8_isAnyHung_50 : decode cX8_isAnyHung 50 = .ok (.iconst 0, 1) := by decide +kernel
theorem dX8_isAnyHung_51 : decode cX8_isAnyHung 51 = .ok (.ireturn, 1) := by decide +kernel
theorem dX8_isAnyKept_0 : decode cX8_isAnyKept 0 = .ok (.iconst 0, 1) := by decide +kernel
theorem dX8_isAnyKept_1 : decode cX8_isAnyKept 1 = .ok (.istore_n 2, 1) := by decide +kernel
theorem dX8_isAnyKept_2 : decode cX8_isAnyKept 2 = .ok (.iload_n 2, 1) := by decide +kernel
theorem dX8_isAnyKept_3 : decode cX8_isAnyKept 3 = .ok (.bipush 13, 2) := by decide +kernel
theorem dX8_isAnyKept_5 : decode cX8_isAnyKept 5 = .ok (.if_icmp .ge 23, 3) := by decide +kernel
theorem dX8_isAnyKept_8 : decode cX8_isAnyKept 8 = .ok (.aload_n 0, 1) := by decide +kernel
theorem dX8_isAnyKept_9 : decode cX8_isAnyKept 9 = .ok (.iload_n 1, 1) := by decide +kernel
theorem dX8_isAnyKept_10 : decode cX8_isAnyKept 10 = .ok (.iload_n 2, 1) := by decide +kernel
theorem dX8_isAnyKept_11 : decode cX8_isAnyKept 11 = .ok (.invokestatic 291, 3) := by decide +kernel
theorem dX8_isAnyKept_14 : decode cX8_isAnyKept 14 = .ok (.invokevirtual 401, 3) := by decide +kernel
theorem dX8_isAnyKept_17 : decode cX8_isAnyKept 17 = .ok (.ifCond .eq 5, 3) := by decide +kernel
theorem dX8_isAnyKept_20 : decode cX8_isAnyKept 20 = .ok (.iconst 1, 1) := by decide +kernel
theorem dX8_isAnyKept_21 : decode cX8_isAnyKept 21 = .ok (.ireturn, 1) := by decide +kernel
theorem dX8_isAnyKept_22 : decode cX8_isAnyKept 22 = .ok (.iinc 2 1, 3) := by decide +kernel
theorem dX8_isAnyKept_25 : decode cX8_isAnyKept 25 = .ok (.goto (-23), 3) := by decide +kernel
theorem dX8_isAnyKept_28 : decode cX8_isAnyKept 28 = .ok (.iconst 0, 1) := by decide +kernel
theorem dX8_isAnyKept_29 : decode cX8_isAnyKept 29 = .ok (.ireturn, 1) := by decide +kernel
theorem dX8_isCall_0 : decode cX8_isCall 0 = .ok (.iload_n 1, 1) := by decide +kernel
theorem dX8_isCall_1 : decode cX8_isCall 1 = .ok (.sipush 520, 3) := by decide +kernel
theorem dX8_isCall_4 : decode cX8_isCall 4 = .ok (.if_icmp .ge 35, 3) := by decide +kernel
theorem dX8_isCall_7 : decode cX8_isCall 7 = .ok (.iload_n 1, 1) := by decide +kernel
theorem dX8_isCall_8 : decode cX8_isCall 8 = .ok (.bipush 13, 2) := by decide +kernel
theorem dX8_isCall_10 : decode cX8_isCall 10 = .ok (.idiv, 1) := by decide +kernel
theorem dX8_isCall_11 : decode cX8_isCall 11 = .ok (.aload_n 0, 1) := by decide +kernel
theorem dX8_isCall_12 : decode cX8_isCall 12 = .ok (.getfield 23, 3) := by decide +kernel
theorem dX8_isCall_15 : decode cX8_isCall 15 = .ok (.aload_n 0, 1) := by decide +kernel
theorem dX8_isCall_16 : decode cX8_isCall 16 = .ok (.getfield 187, 3) := by decide +kernel
theorem dX8_isCall_19 : decode cX8_isCall 19 = .ok (.iaload, 1) := by decide +kernel
theorem dX8_isCall_20 : decode cX8_isCall 20 = .ok (.if_icmp .ge 19, 3) := by decide +kernel
theorem dX8_isCall_23 : decode cX8_isCall 23 = .ok (.aload_n 0, 1) := by decide +kernel
theorem dX8_isCall_24 : decode cX8_isCall 24 = .ok (.iload_n 1, 1) := by decide +kernel
theorem dX8_isCall_25 : decode cX8_isCall 25 = .ok (.bipush 13, 2) := by decide +kernel
theorem dX8_isCall_27 : decode cX8_isCall 27 = .ok (.idiv, 1) := by decide +kernel
theorem dX8_isCall_28 : decode cX8_isCall 28 = .ok (.invokevirtual 271, 3) := by decide +kernel
theorem dX8_isCall_31 : decode cX8_isCall 31 = .ok (.iconst 1, 1) := by decide +kernel
theorem dX8_isCall_32 : decode cX8_isCall 32 = .ok (.if_icmp .ne 7, 3) := by decide +kernel
theorem dX8_isCall_35 : decode cX8_isCall 35 = .ok (.iconst 1, 1) := by decide +kernel
theorem dX8_isCall_36 : decode cX8_isCall 36 = .ok (.goto 4, 3) := by decide +kernel
theorem dX8_isCall_39 : decode cX8_isCall 39 = .ok (.iconst 0, 1) := by decide +kernel
theorem dX8_isCall_40 : decode cX8_isCall 40 = .ok (.ireturn, 1) := by decide +kernel
theorem dX8_isGood_0 : decode cX8_isGood 0 = .ok (.aload_n 0, 1) := by decide +kernel
theorem dX8_isGood_1 : decode cX8_isGood 1 = .ok (.getfield 169, 3) := by decide +kernel
theorem dX8_isGood_4 : decode cX8_isGood 4 = .ok (.ifCond .ne 7, 3) := by decide +kernel
theorem dX8_isGood_7 : decode cX8_isGood 7 = .ok (.iconst 1, 1) := by decide +kernel
theorem dX8_isGood_8 : decode cX8_isGood 8 = .ok (.goto 4, 3) := by decide +kernel
theorem dX8_isGood_11 : decode cX8_isGood 11 = .ok (.iconst 0, 1) := by decide +kernel
theorem dX8_isGood_12 : decode cX8_isGood 12 = .ok (.ireturn, 1) := by decide +kernel
theorem dX8_isHung_0 : decode cX8_isHung 0 = .ok (.aload_n 0, 1) := by decide +kernel
theorem dX8_isHung_1 : decode cX8_isHung 1 = .ok (.getfield 108, 3) := by decide +kernel
theorem dX8_isHung_4 : decode cX8_isHung 4 = .ok (.bipush 19, 2) := by decide +kernel
theorem dX8_isHung_6 : decode cX8_isHung 6 = .ok (.iload_n 1, 1) := by decide +kernel
theorem dX8_isHung_7 : decode cX8_isHung 7 = .ok (.imul, 1) := by decide +kernel
theorem dX8_isHung_8 : decode cX8_isHung 8 = .ok (.iload_n 2, 1) := by decide +kernel
theorem dX8_isHung_9 : decode cX8_isHung 9 = .ok (.bipush 32, 2) := by decide +kernel
theorem dX8_isHung_11 : decode cX8_isHung 11 = .ok (.idiv, 1) := by decide +kernel
theorem dX8_isHung_12 : decode cX8_isHung 12 = .ok (.iadd, 1) := by decide +kernel
theorem dX8_isHung_13 : decode cX8_isHung 13 = .ok (.iaload, 1) := by decide +kernel
theorem dX8_isHung_14 : decode cX8_isHung 14 = .ok (.iload_n 2, 1) := by decide +kernel
theorem dX8_isHung_15 : decode cX8_isHung 15 = .ok (.bipush 32, 2) := by decide +kernel
theorem dX8_isHung_17 : decode cX8_isHung 17 = .ok (.irem, 1) := by decide +kernel
theorem dX8_isHung_18 : decode cX8_isHung 18 = .ok (.iushr, 1) := by decide +kernel
theorem dX8_isHung_19 : decode cX8_isHung 19 = .ok (.iconst 1, 1) := by decide +kernel
theorem dX8_isHung_20 : decode cX8_isHung 20 = .ok (.iand, 1) := by decide +kernel
theorem dX8_isHung_21 : decode cX8_isHung 21 = .ok (.iconst 1, 1) := by decide +kernel
theorem dX8_isHung_22 : decode cX8_isHung 22 = .ok (.if_icmp .ne 7, 3) := by decide +kernel
theorem dX8_isHung_25 : decode cX8_isHung 25 = .ok (.iconst 1, 1) := by decide +kernel
theorem dX8_isHung_26 : decode cX8_isHung 26 = .ok (.goto 4, 3) := by decide +kernel
theorem dX8_isHung_29 : decode cX8_isHung 29 = .ok (.iconst 0, 1) := by decide +kernel
theorem dX8_isHung_30 : decode cX8_isHung 30 = .ok (.ireturn, 1) := by decide +kernel
theorem dX8_isIn_0 : decode cX8_isIn 0 = .ok (.iload_n 0, 1) := by decide +kernel
theorem dX8_isIn_1 : decode cX8_isIn 1 = .ok (.iload_n 1, 1) := by decide +kernel
theorem dX8_isIn_2 : decode cX8_isIn 2 = .ok (.if_icmp .lt 12, 3) := by decide +kernel
theorem dX8_isIn_5 : decode cX8_isIn 5 = .ok (.iload_n 0, 1) := by decide +kernel
theorem dX8_isIn_6 : decode cX8_isIn 6 = .ok (.iload_n 2, 1) := by decide +kernel
theorem dX8_isIn_7 : decode cX8_isIn 7 = .ok (.if_icmp .gt 7, 3) := by decide +kernel
theorem dX8_isIn_10 : decode cX8_isIn 10 = .ok (.iconst 1, 1) := by decide +kernel
theorem dX8_isIn_11 : decode cX8_isIn 11 = .ok (.goto 4, 3) := by decide +kernel
theorem dX8_isIn_14 : decode cX8_isIn 14 = .ok (.iconst 0, 1) := by decide +kernel
theorem dX8_isIn_15 : decode cX8_isIn 15 = .ok (.ireturn, 1) := by decide +kernel
theorem dX8_isInSet_0 : decode cX8_isInSet 0 = .ok (.aload_n 0, 1) := by decide +kernel
theorem dX8_isInSet_1 : decode cX8_isInSet 1 = .ok (.getfield 127, 3) := by decide +kernel
theorem dX8_isInSet_4 : decode cX8_isInSet 4 = .ok (.iload_n 1, 1) := by decide +kernel
theorem dX8_isInSet_5 : decode cX8_isInSet 5 = .ok (.bipush 32, 2) := by decide +kernel
theorem dX8_isInSet_7 : decode cX8_isInSet 7 = .ok (.idiv, 1) := by decide +kernel
theorem dX8_isInSet_8 : decode cX8_isInSet 8 = .ok (.iaload, 1) := by decide +kernel
theorem dX8_isInSet_9 : decode cX8_isInSet 9 = .ok (.iload_n 1, 1) := by decide +kernel
theorem dX8_isInSet_10 : decode cX8_isInSet 10 = .ok (.bipush 32, 2) := by decide +kernel
theorem dX8_isInSet_12 : decode cX8_isInSet 12 = .ok (.irem, 1) := by decide +kernel
theorem dX8_isInSet_13 : decode cX8_isInSet 13 = .ok (.iushr, 1) := by decide +kernel
theorem dX8_isInSet_14 : decode cX8_isInSet 14 = .ok (.iconst 1, 1) := by decide +kernel
theorem dX8_isInSet_15 : decode cX8_isInSet 15 = .ok (.iand, 1) := by decide +kernel
theorem dX8_isInSet_16 : decode cX8_isInSet 16 = .ok (.iconst 1, 1) := by decide +kernel
theorem dX8_isInSet_17 : decode cX8_isInSet 17 = .ok (.if_icmp .ne 7, 3) := by decide +kernel
theorem dX8_isInSet_20 : decode cX8_isInSet 20 = .ok (.iconst 1, 1) := by decide +kernel
theorem dX8_isInSet_21 : decode cX8_isInSet 21 = .ok (.goto 4, 3) := by decide +kernel
theorem dX8_isInSet_24 : decode cX8_isInSet 24 = .ok (.iconst 0, 1) := by decide +kernel
theorem dX8_isInSet_25 : decode cX8_isInSet 25 = .ok (.ireturn, 1) := by decide +kernel
theorem dX8_isKept_0 : decode cX8_isKept 0 = .ok (.aload_n 0, 1) := by decide +kernel
theorem dX8_isKept_1 : decode cX8_isKept 1 = .ok (.getfield 136, 3) := by decide +kernel
theorem dX8_isKept_4 : decode cX8_isKept 4 = .ok (.iload_n 1, 1) := by decide +kernel
theorem dX8_isKept_5 : decode cX8_isKept 5 = .ok (.bipush 32, 2) := by decide +kernel
theorem dX8_isKept_7 : decode cX8_isKept 7 = .ok (.idiv, 1) := by decide +kernel
theorem dX8_isKept_8 : decode cX8_isKept 8 = .ok (.iaload, 1) := by decide +kernel
theorem dX8_isKept_9 : decode cX8_isKept 9 = .ok (.iload_n 1, 1) := by decide +kernel
theorem dX8_isKept_10 : decode cX8_isKept 10 = .ok (.bipush 32, 2) := by decide +kernel
theorem dX8_isKept_12 : decode cX8_isKept 12 = .ok (.irem, 1) := by decide +kernel
theorem dX8_isKept_13 : decode cX8_isKept 13 = .ok (.iushr, 1) := by decide +kernel
theorem dX8_isKept_14 : decode cX8_isKept 14 = .ok (.iconst 1, 1) := by decide +kernel
theorem dX8_isKept_15 : decode cX8_isKept 15 = .ok (.iand, 1) := by decide +kernel
theorem dX8_isKept_16 : decode cX8_isKept 16 = .ok (.iconst 1, 1) := by decide +kernel
theorem dX8_isKept_17 : decode cX8_isKept 17 = .ok (.if_icmp .ne 7, 3) := by decide +kernel
theorem dX8_isKept_20 : decode cX8_isKept 20 = .ok (.iconst 1, 1) := by decide +kernel
theorem dX8_isKept_21 : decode cX8_isKept 21 = .ok (.goto 4, 3) := by decide +kernel
theorem dX8_isKept_24 : decode cX8_isKept 24 = .ok (.iconst 0, 1) := by decide +kernel
theorem dX8_isKept_25 : decode cX8_isKept 25 = .ok (.ireturn, 1) := by decide +kernel
theorem dX8_isProcedure_0 : decode cX8_isProcedure 0 = .ok (.aload_n 0, 1) := by decide +kernel
theorem dX8_isProcedure_1 : decode cX8_isProcedure 1 = .ok (.getfield 243, 3) := by decide +kernel
theorem dX8_isProcedure_4 : decode cX8_isProcedure 4 = .ok (.ifCond .eq 26, 3) := by decide +kernel
theorem dX8_isProcedure_7 : decode cX8_isProcedure 7 = .ok (.iload_n 1, 1) := by decide +kernel
theorem dX8_isProcedure_8 : decode cX8_isProcedure 8 = .ok (.iconst 0, 1) := by decide +kernel
theorem dX8_isProcedure_9 : decode cX8_isProcedure 9 = .ok (.aload_n 0, 1) := by decide +kernel
theorem dX8_isProcedure_10 : decode cX8_isProcedure 10 = .ok (.getfield 26, 3) := by decide +kernel
theorem dX8_isProcedure_13 : decode cX8_isProcedure 13 = .ok (.aload_n 0, 1) := by decide +kernel
theorem dX8_isProcedure_14 : decode cX8_isProcedure 14 = .ok (.getfield 228, 3) := by decide +kernel
theorem dX8_isProcedure_17 : decode cX8_isProcedure 17 = .ok (.iaload, 1) := by decide +kernel
theorem dX8_isProcedure_18 : decode cX8_isProcedure 18 = .ok (.iconst 1, 1) := by decide +kernel
theorem dX8_isProcedure_19 : decode cX8_isProcedure 19 = .ok (.isub, 1) := by decide +kernel
theorem dX8_isProcedure_20 : decode cX8_isProcedure 20 = .ok (.invokestatic 159, 3) := by decide +kernel
theorem dX8_isProcedure_23 : decode cX8_isProcedure 23 = .ok (.ifCond .eq 7, 3) := by decide +kernel
theorem dX8_isProcedure_26 : decode cX8_isProcedure 26 = .ok (.iconst 1, 1) := by decide +kernel
theorem dX8_isProcedure_27 : decode cX8_isProcedure 27 = .ok (.goto 4, 3) := by decide +kernel
theorem dX8_isProcedure_30 : decode cX8_isProcedure 30 = .ok (.iconst 0, 1) := by decide +kernel
theorem dX8_isProcedure_31 : decode cX8_isProcedure 31 = .ok (.ireturn, 1) := by decide +kernel
theorem dX8_isSign_0 : decode cX8_isSign 0 = .ok (.iload_n 0, 1) := by decide +kernel
theorem dX8_isSign_1 : decode cX8_isSign 1 = .ok (.bipush 43, 2) := by decide +kernel
theorem dX8_isSign_3 : decode cX8_isSign 3 = .ok (.if_icmp .eq 21, 3) := by decide +kernel
theorem dX8_isSign_6 : decode cX8_isSign 6 = .ok (.iload_n 0, 1) := by decide +kernel
theorem dX8_isSign_7 : decode cX8_isSign 7 = .ok (.bipush 45, 2) := by decide +kernel
theorem dX8_isSign_9 : decode cX8_isSign 9 = .ok (.if_icmp .eq 15, 3) := by decide +kernel
theorem dX8_isSign_12 : decode cX8_isSign 12 = .ok (.iload_n 0, 1) := by decide +kernel
theorem dX8_isSign_13 : decode cX8_isSign 13 = .ok (.bipush 42, 2) := by decide +kernel
theorem dX8_isSign_15 : decode cX8_isSign 15 = .ok (.if_icmp .eq 9, 3) := by decide +kernel
theorem dX8_isSign_18 : decode cX8_isSign 18 = .ok (.iload_n 0, 1) := by decide +kernel
theorem dX8_isSign_19 : decode cX8_isSign 19 = .ok (.bipush 60, 2) := by decide +kernel
theorem dX8_isSign_21 : decode cX8_isSign 21 = .ok (.if_icmp .ne 7, 3) := by decide +kernel
theorem dX8_isSign_24 : decode cX8_isSign 24 = .ok (.iconst 1, 1) := by decide +kernel
theorem dX8_isSign_25 : decode cX8_isSign 25 = .ok (.goto 4, 3) := by decide +kernel
theorem dX8_isSign_28 : decode cX8_isSign 28 = .ok (.iconst 0, 1) := by decide +kernel
theorem dX8_isSign_29 : decode cX8_isSign 29 = .ok (.ireturn, 1) := by decide +kernel
theorem dX8_isStatement_0 : decode cX8_isStatement 0 = .ok (.aload_n 0, 1) := by decide +kernel
theorem dX8_isStatement_1 : decode cX8_isStatement 1 = .ok (.getfield 243, 3) := by decide +kernel
theorem dX8_isStatement_4 : decode cX8_isStatement 4 = .ok (.ifCond .eq 26, 3) := by decide +kernel
theorem dX8_isStatement_7 : decode cX8_isStatement 7 = .ok (.iload_n 1, 1) := by decide +kernel
theorem dX8_isStatement_8 : decode cX8_isStatement 8 = .ok (.iconst 0, 1) := by decide +kernel
theorem dX8_isStatement_9 : decode cX8_isStatement 9 = .ok (.aload_n 0, 1) := by decide +kernel
theorem dX8_isStatement_10 : decode cX8_isStatement 10 = .ok (.getfield 23, 3) := by decide +kernel
theorem dX8_isStatement_13 : decode cX8_isStatement 13 = .ok (.aload_n 0, 1) := by decide +kernel
theorem dX8_isStatement_14 : decode cX8_isStatement 14 = .ok (.getfield 228, 3) := by decide +kernel
theorem dX8_isStatement_17 : decode cX8_isStatement 17 = .ok (.iaload, 1) := by decide +kernel
theorem dX8_isStatement_18 : decode cX8_isStatement 18 = .ok (.iconst 1, 1) := by decide +kernel
theorem dX8_isStatement_19 : decode cX8_isStatement 19 = .ok (.isub, 1) := by decide +kernel
theorem dX8_isStatement_20 : decode cX8_isStatement 20 = .ok (.invokestatic 159, 3) := by decide +kernel
theorem dX8_isStatement_23 : decode cX8_isStatement 23 = .ok (.ifCond .eq 7, 3) := by decide +kernel
theorem dX8_isStatement_26 : decode cX8_isStatement 26 = .ok (.iconst 1, 1) := by decide +kernel
theorem dX8_isStatement_27 : decode cX8_isStatement 27 = .ok (.goto 4, 3) := by decide +kernel
theorem dX8_isStatement_30 : decode cX8_isStatement 30 = .ok (.iconst 0, 1) := by decide +kernel
theorem dX8_isStatement_31 : decode cX8_isStatement 31 = .ok (.ireturn, 1) := by decide +kernel
theorem dX8_item_0 : decode cX8_item 0 = .ok (.aload_n 0, 1) := by decide +kernel
theorem dX8_item_1 : decode cX8_item 1 = .ok (.getfield 77, 3) := by decide +kernel
theorem dX8_item_4 : decode cX8_item 4 = .ok (.bipush 40, 2) := by decide +kernel
theorem dX8_item_6 : decode cX8_item 6 = .ok (.aload_n 0, 1) := by decide +kernel
theorem dX8_item_7 : decode cX8_item 7 = .ok (.getfield 187, 3) := by decide +kernel
theorem dX8_item_10 : decode cX8_item 10 = .ok (.imul, 1) := by decide +kernel
theorem dX8_item_11 : decode cX8_item 11 = .ok (.iload_n 1, 1) := by decide +kernel
theorem dX8_item_12 : decode cX8_item 12 = .ok (.iadd, 1) := by decide +kernel
theorem dX8_item_13 : decode cX8_item 13 = .ok (.iaload, 1) := by decide +kernel
theorem dX8_item_14 : decode cX8_item 14 = .ok (.ireturn, 1) := by decide +kernel
theorem dX8_joins_0 : decode cX8_joins 0 = .ok (.iconst 0, 1) := by decide +kernel
theorem dX8_joins_1 : decode cX8_joins 1 = .ok (.istore_n 1, 1) := by decide +kernel
theorem dX8_joins_2 : decode cX8_joins 2 = .ok (.iload_n 1, 1) := by decide +kernel
theorem dX8_joins_3 : decode cX8_joins 3 = .ok (.bipush 19, 2) := by decide +kernel
theorem dX8_joins_5 : decode cX8_joins 5 = .ok (.if_icmp .ge 24, 3) := by decide +kernel
theorem dX8_joins_8 : decode cX8_joins 8 = .ok (.aload_n 0, 1) := by decide +kernel
theorem dX8_joins_9 : decode cX8_joins 9 = .ok (.getfield 136, 3) := by decide +kernel
theorem dX8_joins_12 : decode cX8_joins 12 = .ok (.iload_n 1, 1) := by decide +kernel
theorem dX8_joins_13 : decode cX8_joins 13 = .ok (.dup2, 1) := by decide +kernel
theorem dX8_joins_14 : decode cX8_joins 14 = .ok (.iaload, 1) := by decide +kernel
theorem dX8_joins_15 : decode cX8_joins 15 = .ok (.aload_n 0, 1) := by decide +kernel
theorem dX8_joins_16 : decode cX8_joins 16 = .ok (.getfield 127, 3) := by decide +kernel
theorem dX8_joins_19 : decode cX8_joins 19 = .ok (.iload_n 1, 1) := by decide +kernel
theorem dX8_joins_20 : decode cX8_joins 20 = .ok (.iaload, 1) := by decide +kernel
theorem dX8_joins_21 : decode cX8_joins 21 = .ok (.ior, 1) := by decide +kernel
theorem dX8_joins_22 : decode cX8_joins 22 = .ok (.iastore, 1) := by decide +kernel
theorem dX8_joins_23 : decode cX8_joins 23 = .ok (.iinc 1 1, 3) := by decide +kernel
theorem dX8_joins_26 : decode cX8_joins 26 = .ok (.goto (-24), 3) := by decide +kernel
theorem dX8_joins_29 : decode cX8_joins 29 = .ok (.return_, 1) := by decide +kernel
theorem dX8_kindAt_0 : decode cX8_kindAt 0 = .ok (.aload_n 0, 1) := by decide +kernel
theorem dX8_kindAt_1 : decode cX8_kindAt 1 = .ok (.getfield 29, 3) := by decide +kernel
theorem dX8_kindAt_4 : decode cX8_kindAt 4 = .ok (.aload_n 0, 1) := by decide +kernel
theorem dX8_kindAt_5 : decode cX8_kindAt 5 = .ok (.iload_n 1, 1) := by decide +kernel
theorem dX8_kindAt_6 : decode cX8_kindAt 6 = .ok (.invokevirtual 268, 3) := by decide +kernel
theorem dX8_kindAt_9 : decode cX8_kindAt 9 = .ok (.iaload, 1) := by decide +kernel
theorem dX8_kindAt_10 : decode cX8_kindAt 10 = .ok (.ireturn, 1) := by decide +kernel
theorem dX8_kindOf_0 : decode cX8_kindOf 0 = .ok (.iload_n 0, 1) := by decide +kernel
theorem dX8_kindOf_1 : decode cX8_kindOf 1 = .ok (.bipush 63, 2) := by decide +kernel
theorem dX8_kindOf_3 : decode cX8_kindOf 3 = .ok (.if_icmp .ne 7, 3) := by decide +kernel
theorem dX8_kindOf_6 : decode cX8_kindOf 6 = .ok (.iconst 2, 1) := by decide +kernel
theorem dX8_kindOf_7 : decode cX8_kindOf 7 = .ok (.goto 45, 3) := by decide +kernel
theorem dX8_kindOf_10 : decode cX8_kindOf 10 = .ok (.iload_n 0, 1) := by decide +kernel
theorem dX8_kindOf_11 : decode cX8_kindOf 11 = .ok (.bipush 64, 2) := by decide +kernel
theorem dX8_kindOf_13 : decode cX8_kindOf 13 = .ok (.if_icmp .ne 7, 3) := by decide +kernel
theorem dX8_kindOf_16 : decode cX8_kindOf 16 = .ok (.iconst 3, 1) := by decide +kernel
theorem dX8_kindOf_17 : decode cX8_kindOf 17 = .ok (.goto 35, 3) := by decide +kernel
theorem dX8_kindOf_20 : decode cX8_kindOf 20 = .ok (.iload_n 0, 1) := by decide +kernel
theorem dX8_kindOf_21 : decode cX8_kindOf 21 = .ok (.bipush 33, 2) := by decide +kernel
theorem dX8_kindOf_23 : decode cX8_kindOf 23 = .ok (.if_icmp .ne 7, 3) := by decide +kernel
theorem dX8_kindOf_26 : decode cX8_kindOf 26 = .ok (.iconst 4, 1) := by decide +kernel
theorem dX8_kindOf_27 : decode cX8_kindOf 27 = .ok (.goto 25, 3) := by decide +kernel
theorem dX8_kindOf_30 : decode cX8_kindOf 30 = .ok (.iload_n 0, 1) := by decide +kernel
theorem dX8_kindOf_31 : decode cX8_kindOf 31 = .ok (.bipush 94, 2) := by decide +kernel
theorem dX8_kindOf_33 : decode cX8_kindOf 33 = .ok (.if_icmp .ne 7, 3) := by decide +kernel
theorem dX8_kindOf_36 : decode cX8_kindOf 36 = .ok (.iconst 5, 1) := by decide +kernel
theorem dX8_kindOf_37 : decode cX8_kindOf 37 = .ok (.goto 15, 3) := by decide +kernel
theorem dX8_kindOf_40 : decode cX8_kindOf 40 = .ok (.iload_n 0, 1) := by decide +kernel
theorem dX8_kindOf_41 : decode cX8_kindOf 41 = .ok (.bipush 37, 2) := by decide +kernel
theorem dX8_kindOf_43 : decode cX8_kindOf 43 = .ok (.if_icmp .ne 8, 3) := by decide +kernel
theorem dX8_kindOf_46 : decode cX8_kindOf 46 = .ok (.bipush 6, 2) := by decide +kernel
theorem dX8_kindOf_48 : decode cX8_kindOf 48 = .ok (.goto 4, 3) := by decide +kernel
theorem dX8_kindOf_51 : decode cX8_kindOf 51 = .ok (.iconst (-1), 1) := by decide +kernel
theorem dX8_kindOf_52 : decode cX8_kindOf 52 = .ok (.ireturn, 1) := by decide +kernel
theorem dX8_number_0 : decode cX8_number 0 = .ok (.iload_n 2, 1) := by decide +kernel
theorem dX8_number_1 : decode cX8_number 1 = .ok (.sipush 1000, 3) := by decide +kernel
theorem dX8_number_4 : decode cX8_number 4 = .ok (.if_icmp .ge 7, 3) := by decide +kernel
theorem dX8_number_7 : decode cX8_number 7 = .ok (.iload_n 2, 1) := by decide +kernel
theorem dX8_number_8 : decode cX8_number 8 = .ok (.goto 38, 3) := by decide +kernel
theorem dX8_number_11 : decode cX8_number 11 = .ok (.iload_n 2, 1) := by decide +kernel
theorem dX8_number_12 : decode cX8_number 12 = .ok (.sipush 1006, 3) := by decide +kernel
theorem dX8_number_15 : decode cX8_number 15 = .ok (.if_icmp .ge 21, 3) := by decide +kernel
theorem dX8_number_18 : decode cX8_number 18 = .ok (.aload_n 0, 1) := by decide +kernel
theorem dX8_number_19 : decode cX8_number 19 = .ok (.getfield 142, 3) := by decide +kernel
theorem dX8_number_22 : decode cX8_number 22 = .ok (.bipush 6, 2) := by decide +kernel
theorem dX8_number_24 : decode cX8_number 24 = .ok (.iload_n 1, 1) := by decide +kernel
theorem dX8_number_25 : decode cX8_number 25 = .ok (.imul, 1) := by decide +kernel
theorem dX8_number_26 : decode cX8_number 26 = .ok (.iload_n 2, 1) := by decide +kernel
theorem dX8_number_27 : decode cX8_number 27 = .ok (.iadd, 1) := by decide +kernel
theorem dX8_number_28 : decode cX8_number 28 = .ok (.sipush 1000, 3) := by decide +kernel
theorem dX8_number_31 : decode cX8_number 31 = .ok (.isub, 1) := by decide +kernel
theorem dX8_number_32 : decode cX8_number 32 = .ok (.iaload, 1) := by decide +kernel
theorem dX8_number_33 : decode cX8_number 33 = .ok (.goto 13, 3) := by decide +kernel
theorem dX8_number_36 : decode cX8_number 36 = .ok (.aload_n 0, 1) := by decide +kernel
theorem dX8_number_37 : decode cX8_number 37 = .ok (.getfield 139, 3) := by decide +kernel
theorem dX8_number_40 : decode cX8_number 40 = .ok (.iload_n 2, 1) := by decide +kernel
theorem dX8_number_41 : decode cX8_number 41 = .ok (.sipush 1006, 3) := by decide +kernel
theorem dX8_number_44 : decode cX8_number 44 = .ok (.isub, 1) := by decide +kernel
theorem dX8_number_45 : decode cX8_number 45 = .ok (.iaload, 1) := by decide +kernel
theorem dX8_number_46 : decode cX8_number 46 = .ok (.ireturn, 1) := by decide +kernel
theorem dX8_number__0 : decode cX8_number_ 0 = .ok (.aload_n 0, 1) := by decide +kernel
theorem dX8_number__1 : decode cX8_number_ 1 = .ok (.iload_n 1, 1) := by decide +kernel
theorem dX8_number__2 : decode cX8_number_ 2 = .ok (.aload_n 0, 1) := by decide +kernel
theorem dX8_number__3 : decode cX8_number_ 3 = .ok (.getfield 65, 3) := by decide +kernel
theorem dX8_number__6 : decode cX8_number_ 6 = .ok (.iconst 2, 1) := by decide +kernel
theorem dX8_number__7 : decode cX8_number_ 7 = .ok (.iload_n 2, 1) := by decide +kernel
theorem dX8_number__8 : decode cX8_number_ 8 = .ok (.imul, 1) := by decide +kernel
theorem dX8_number__9 : decode cX8_number_ 9 = .ok (.iload_n 3, 1) := by decide +kernel
theorem dX8_number__10 : decode cX8_number_ 10 = .ok (.iadd, 1) := by decide +kernel
theorem dX8_number__11 : decode cX8_number_ 11 = .ok (.iaload, 1) := by decide +kernel
theorem dX8_number__12 : decode cX8_number_ 12 = .ok (.invokevirtual 416, 3) := by decide +kernel
theorem dX8_number__15 : decode cX8_number_ 15 = .ok (.ireturn, 1) := by decide +kernel
theorem dX8_onAllFrom_0 : decode cX8_onAllFrom 0 = .ok (.iload_n 1, 1) := by decide +kernel
theorem dX8_onAllFrom_1 : decode cX8_onAllFrom 1 = .ok (.iconst (-1), 1) := by decide +kernel
theorem dX8_onAllFrom_2 : decode cX8_onAllFrom 2 = .ok (.if_icmp .ne 7, 3) := by decide +kernel
theorem dX8_onAllFrom_5 : decode cX8_onAllFrom 5 = .ok (.lconst 0, 1) := by decide +kernel
theorem dX8_onAllFrom_6 : decode cX8_onAllFrom 6 = .ok (.goto 9, 3) := by decide +kernel
theorem dX8_onAllFrom_9 : decode cX8_onAllFrom 9 = .ok (.aload_n 0, 1) := by decide +kernel
theorem dX8_onAllFrom_10 : decode cX8_onAllFrom 10 = .ok (.getfield 118, 3) := by decide +kernel
theorem dX8_onAllFrom_13 : decode cX8_onAllFrom 13 = .ok (.iload_n 1, 1) := by decide +kernel
theorem dX8_onAllFrom_14 : decode cX8_onAllFrom 14 = .ok (.laload, 1) := by decide +kernel
theorem dX8_onAllFrom_15 : decode cX8_onAllFrom 15 = .ok (.lreturn, 1) := by decide +kernel
theorem dX8_procedureOf_0 : decode cX8_procedureOf 0 = .ok (.aload_n 0, 1) := by decide +kernel
theorem dX8_procedureOf_1 : decode cX8_procedureOf 1 = .ok (.getfield 35, 3) := by decide +kernel
theorem dX8_procedureOf_4 : decode cX8_procedureOf 4 = .ok (.aload_n 0, 1) := by decide +kernel
theorem dX8_procedureOf_5 : decode cX8_procedureOf 5 = .ok (.iload_n 1, 1) := by decide +kernel
theorem dX8_procedureOf_6 : decode cX8_procedureOf 6 = .ok (.invokevirtual 268, 3) := by decide +kernel
theorem dX8_procedureOf_9 : decode cX8_procedureOf 9 = .ok (.iaload, 1) := by decide +kernel
theorem dX8_procedureOf_10 : decode cX8_procedureOf 10 = .ok (.ireturn, 1) := by decide +kernel
theorem dX8_procedurePlace_0 : decode cX8_procedurePlace 0 = .ok (.sipush 520, 3) := by decide +kernel
theorem dX8_procedurePlace_3 : decode cX8_procedurePlace 3 = .ok (.bipush 13, 2) := by decide +kernel
theorem dX8_procedurePlace_5 : decode cX8_procedurePlace 5 = .ok (.iload_n 0, 1) := by decide +kernel
theorem dX8_procedurePlace_6 : decode cX8_procedurePlace 6 = .ok (.imul, 1) := by decide +kernel
theorem dX8_procedurePlace_7 : decode cX8_procedurePlace 7 = .ok (.iadd, 1) := by decide +kernel
theorem dX8_procedurePlace_8 : decode cX8_procedurePlace 8 = .ok (.iload_n 1, 1) := by decide +kernel
theorem dX8_procedurePlace_9 : decode cX8_procedurePlace 9 = .ok (.iadd, 1) := by decide +kernel
theorem dX8_procedurePlace_10 : decode cX8_procedurePlace 10 = .ok (.ireturn, 1) := by decide +kernel
theorem dX8_saw_0 : decode cX8_saw 0 = .ok (.aload_n 0, 1) := by decide +kernel
theorem dX8_saw_1 : decode cX8_saw 1 = .ok (.iload_n 1, 1) := by decide +kernel
theorem dX8_saw_2 : decode cX8_saw 2 = .ok (.invokevirtual 389, 3) := by decide +kernel
theorem dX8_saw_5 : decode cX8_saw 5 = .ok (.ifCond .eq 10, 3) := by decide +kernel
theorem dX8_saw_8 : decode cX8_saw 8 = .ok (.aload_n 0, 1) := by decide +kernel
theorem dX8_saw_9 : decode cX8_saw 9 = .ok (.getfield 247, 3) := by decide +kernel
theorem dX8_saw_12 : decode cX8_saw 12 = .ok (.ifCond .ne 5, 3) := by decide +kernel
theorem dX8_saw_15 : decode cX8_saw 15 = .ok (.iconst 0, 1) := by decide +kernel
theorem dX8_saw_16 : decode cX8_saw 16 = .ok (.ireturn, 1) := by decide +kernel
theorem dX8_saw_17 : decode cX8_saw 17 = .ok (.iconst 0, 1) := by decide +kernel
theorem dX8_saw_18 : decode cX8_saw 18 = .ok (.istore_n 3, 1) := by decide +kernel
theorem dX8_saw_19 : decode cX8_saw 19 = .ok (.iconst 0, 1) := by decide +kernel
theorem dX8_saw_20 : decode cX8_saw 20 = .ok (.istore 4, 2) := by decide +kernel
theorem dX8_saw_22 : decode cX8_saw 22 = .ok (.iload 4, 2) := by decide +kernel
theorem dX8_saw_24 : decode cX8_saw 24 = .ok (.aload_n 0, 1) := by decide +kernel
theorem dX8_saw_25 : decode cX8_saw 25 = .ok (.getfield 418, 3) := by decide +kernel
theorem dX8_saw_28 : decode cX8_saw 28 = .ok (.if_icmp .ge 39, 3) := by decide +kernel
theorem dX8_saw_31 : decode cX8_saw 31 = .ok (.aload_n 0, 1) := by decide +kernel
theorem dX8_saw_32 : decode cX8_saw 32 = .ok (.getfield 145, 3) := by decide +kernel
theorem dX8_saw_35 : decode cX8_saw 35 = .ok (.iload 4, 2) := by decide +kernel
theorem dX8_saw_37 : decode cX8_saw 37 = .ok (.iaload, 1) := by decide +kernel
theorem dX8_saw_38 : decode cX8_saw 38 = .ok (.iload_n 1, 1) := by decide +kernel
theorem dX8_saw_39 : decode cX8_saw 39 = .ok (.if_icmp .eq 6, 3) := by decide +kernel
theorem dX8_saw_42 : decode cX8_saw 42 = .ok (.goto 19, 3) := by decide +kernel
theorem dX8_saw_45 : decode cX8_saw 45 = .ok (.iload_n 3, 1) := by decide +kernel
theorem dX8_saw_46 : decode cX8_saw 46 = .ok (.iload_n 2, 1) := by decide +kernel
theorem dX8_saw_47 : decode cX8_saw 47 = .ok (.if_icmp .ne 11, 3) := by decide +kernel
theorem dX8_saw_50 : decode cX8_saw 50 = .ok (.aload_n 0, 1) := by decide +kernel
theorem dX8_saw_51 : decode cX8_saw 51 = .ok (.getfield 148, 3) := by decide +kernel
theorem dX8_saw_54 : decode cX8_saw 54 = .ok (.iload 4, 2) := by decide +kernel
theorem dX8_saw_56 : decode cX8_saw 56 = .ok (.iaload, 1) := by decide +kernel
theorem dX8_saw_57 : decode cX8_saw 57 = .ok (.ireturn, 1) := by decide +kernel
theorem dX8_saw_58 : decode cX8_saw 58 = .ok (.iinc 3 1, 3) := by decide +kernel
theorem dX8_saw_61 : decode cX8_saw 61 = .ok (.iinc 4 1, 3) := by decide +kernel
theorem dX8_saw_64 : decode cX8_saw 64 = .ok (.goto (-42), 3) := by decide +kernel
theorem dX8_saw_67 : decode cX8_saw 67 = .ok (.iload_n 2, 1) := by decide +kernel
theorem dX8_saw_68 : decode cX8_saw 68 = .ok (.iconst (-1), 1) := by decide +kernel
theorem dX8_saw_69 : decode cX8_saw 69 = .ok (.if_icmp .ne 7, 3) := by decide +kernel
theorem dX8_saw_72 : decode cX8_saw 72 = .ok (.iload_n 3, 1) := by decide +kernel
theorem dX8_saw_73 : decode cX8_saw 73 = .ok (.goto 4, 3) := by decide +kernel
theorem dX8_saw_76 : decode cX8_saw 76 = .ok (.iconst 0, 1) := by decide +kernel
theorem dX8_saw_77 : decode cX8_saw 77 = .ok (.ireturn, 1) := by decide +kernel
theorem dX8_sees_0 : decode cX8_sees 0 = .ok (.aload_n 0, 1) := by decide +kernel
theorem dX8_sees_1 : decode cX8_sees 1 = .ok (.getfield 418, 3) := by decide +kernel
theorem dX8_sees_4 : decode cX8_sees 4 = .ok (.sipush 500, 3) := by decide +kernel
theorem dX8_sees_7 : decode cX8_sees 7 = .ok (.if_icmp .ne 4, 3) := by decide +kernel
theorem dX8_sees_10 : decode cX8_sees 10 = .ok (.return_, 1) := by decide +kernel
theorem dX8_sees_11 : decode cX8_sees 11 = .ok (.aload_n 0, 1) := by decide +kernel
theorem dX8_sees_12 : decode cX8_sees 12 = .ok (.getfield 145, 3) := by decide +kernel
theorem dX8_sees_15 : decode cX8_sees 15 = .ok (.aload_n 0, 1) := by decide +kernel
theorem dX8_sees_16 : decode cX8_sees 16 = .ok (.getfield 418, 3) := by decide +kernel
theorem dX8_sees_19 : decode cX8_sees 19 = .ok (.aload_n 0, 1) := by decide +kernel
theorem dX8_sees_20 : decode cX8_sees 20 = .ok (.getfield 32, 3) := by decide +kernel
theorem dX8_sees_23 : decode cX8_sees 23 = .ok (.iload_n 1, 1) := by decide +kernel
theorem dX8_sees_24 : decode cX8_sees 24 = .ok (.iaload, 1) := by decide +kernel
theorem dX8_sees_25 : decode cX8_sees 25 = .ok (.iastore, 1) := by decide +kernel
theorem dX8_sees_26 : decode cX8_sees 26 = .ok (.aload_n 0, 1) := by decide +kernel
theorem dX8_sees_27 : decode cX8_sees 27 = .ok (.getfield 148, 3) := by decide +kernel
theorem dX8_sees_30 : decode cX8_sees 30 = .ok (.aload_n 0, 1) := by decide +kernel
theorem dX8_sees_31 : decode cX8_sees 31 = .ok (.getfield 418, 3) := by decide +kernel
theorem dX8_sees_34 : decode cX8_sees 34 = .ok (.iload_n 2, 1) := by decide +kernel
theorem dX8_sees_35 : decode cX8_sees 35 = .ok (.iastore, 1) := by decide +kernel
theorem dX8_sees_36 : decode cX8_sees 36 = .ok (.aload_n 0, 1) := by decide +kernel
theorem dX8_sees_37 : decode cX8_sees 37 = .ok (.dup, 1) := by decide +kernel
theorem dX8_sees_38 : decode cX8_sees 38 = .ok (.getfield 418, 3) := by decide +kernel
theorem dX8_sees_41 : decode cX8_sees 41 = .ok (.iconst 1, 1) := by decide +kernel
theorem dX8_sees_42 : decode cX8_sees 42 = .ok (.iadd, 1) := by decide +kernel
theorem dX8_sees_43 : decode cX8_sees 43 = .ok (.putfield 418, 3) := by decide +kernel
theorem dX8_sees_46 : decode cX8_sees 46 = .ok (.return_, 1) := by decide +kernel
theorem dX8_statementPlace_0 : decode cX8_statementPlace 0 = .ok (.bipush 13, 2) := by decide +kernel
theorem dX8_statementPlace_2 : decode cX8_statementPlace 2 = .ok (.iload_n 0, 1) := by decide +kernel
theorem dX8_statementPlace_3 : decode cX8_statementPlace 3 = .ok (.imul, 1) := by decide +kernel
theorem dX8_statementPlace_4 : decode cX8_statementPlace 4 = .ok (.iload_n 1, 1) := by decide +kernel
theorem dX8_statementPlace_5 : decode cX8_statementPlace 5 = .ok (.iadd, 1) := by decide +kernel
theorem dX8_statementPlace_6 : decode cX8_statementPlace 6 = .ok (.ireturn, 1) := by decide +kernel
theorem dX8_tellsName_0 : decode cX8_tellsName 0 = .ok (.iload_n 2, 1) := by decide +kernel
theorem dX8_tellsName_1 : decode cX8_tellsName 1 = .ok (.bipush 6, 2) := by decide +kernel
theorem dX8_tellsName_3 : decode cX8_tellsName 3 = .ok (.if_icmp .ge 18, 3) := by decide +kernel
theorem dX8_tellsName_6 : decode cX8_tellsName 6 = .ok (.aload_n 0, 1) := by decide +kernel
theorem dX8_tellsName_7 : decode cX8_tellsName 7 = .ok (.getfield 142, 3) := by decide +kernel
theorem dX8_tellsName_10 : decode cX8_tellsName 10 = .ok (.bipush 6, 2) := by decide +kernel
theorem dX8_tellsName_12 : decode cX8_tellsName 12 = .ok (.iload_n 1, 1) := by decide +kernel
theorem dX8_tellsName_13 : decode cX8_tellsName 13 = .ok (.imul, 1) := by decide +kernel
theorem dX8_tellsName_14 : decode cX8_tellsName 14 = .ok (.iload_n 2, 1) := by decide +kernel
theorem dX8_tellsName_15 : decode cX8_tellsName 15 = .ok (.iadd, 1) := by decide +kernel
theorem dX8_tellsName_16 : decode cX8_tellsName 16 = .ok (.iload_n 3, 1) := by decide +kernel
theorem dX8_tellsName_17 : decode cX8_tellsName 17 = .ok (.iastore, 1) := by decide +kernel
theorem dX8_tellsName_18 : decode cX8_tellsName 18 = .ok (.goto 13, 3) := by decide +kernel
theorem dX8_tellsName_21 : decode cX8_tellsName 21 = .ok (.aload_n 0, 1) := by decide +kernel
theorem dX8_tellsName_22 : decode cX8_tellsName 22 = .ok (.getfield 139, 3) := by decide +kernel
theorem dX8_tellsName_25 : decode cX8_tellsName 25 = .ok (.iload_n 2, 1) := by decide +kernel
theorem dX8_tellsName_26 : decode cX8_tellsName 26 = .ok (.bipush 6, 2) := by decide +kernel
theorem dX8_tellsName_28 : decode cX8_tellsName 28 = .ok (.isub, 1) := by decide +kernel
theorem dX8_tellsName_29 : decode cX8_tellsName 29 = .ok (.iload_n 3, 1) := by decide +kernel
theorem dX8_tellsName_30 : decode cX8_tellsName 30 = .ok (.iastore, 1) := by decide +kernel
theorem dX8_tellsName_31 : decode cX8_tellsName 31 = .ok (.return_, 1) := by decide +kernel
theorem dX8_worked_0 : decode cX8_worked 0 = .ok (.iload_n 0, 1) := by decide +kernel
theorem dX8_worked_1 : decode cX8_worked 1 = .ok (.bipush 43, 2) := by decide +kernel
theorem dX8_worked_3 : decode cX8_worked 3 = .ok (.if_icmp .ne 9, 3) := by decide +kernel
theorem dX8_worked_6 : decode cX8_worked 6 = .ok (.iload_n 1, 1) := by decide +kernel
theorem dX8_worked_7 : decode cX8_worked 7 = .ok (.iload_n 2, 1) := by decide +kernel
theorem dX8_worked_8 : decode cX8_worked 8 = .ok (.iadd, 1) := by decide +kernel
theorem dX8_worked_9 : decode cX8_worked 9 = .ok (.goto 37, 3) := by decide +kernel
theorem dX8_worked_12 : decode cX8_worked 12 = .ok (.iload_n 0, 1) := by decide +kernel
theorem dX8_worked_13 : decode cX8_worked 13 = .ok (.bipush 45, 2) := by decide +kernel
theorem dX8_worked_15 : decode cX8_worked 15 = .ok (.if_icmp .ne 9, 3) := by decide +kernel
theorem dX8_worked_18 : decode cX8_worked 18 = .ok (.iload_n 1, 1) := by decide +kernel
theorem dX8_worked_19 : decode cX8_worked 19 = .ok (.iload_n 2, 1) := by decide +kernel
theorem dX8_worked_20 : decode cX8_worked 20 = .ok (.isub, 1) := by decide +kernel
theorem dX8_worked_21 : decode cX8_worked 21 = .ok (.goto 25, 3) := by decide +kernel
theorem dX8_worked_24 : decode cX8_worked 24 = .ok (.iload_n 0, 1) := by decide +kernel
theorem dX8_worked_25 : decode cX8_worked 25 = .ok (.bipush 42, 2) := by decide +kernel
theorem dX8_worked_27 : decode cX8_worked 27 = .ok (.if_icmp .ne 9, 3) := by decide +kernel
theorem dX8_worked_30 : decode cX8_worked 30 = .ok (.iload_n 1, 1) := by decide +kernel
theorem dX8_worked_31 : decode cX8_worked 31 = .ok (.iload_n 2, 1) := by decide +kernel
theorem dX8_worked_32 : decode cX8_worked 32 = .ok (.imul, 1) := by decide +kernel
theorem dX8_worked_33 : decode cX8_worked 33 = .ok (.goto 13, 3) := by decide +kernel
theorem dX8_worked_36 : decode cX8_worked 36 = .ok (.iload_n 1, 1) := by decide +kernel
theorem dX8_worked_37 : decode cX8_worked 37 = .ok (.iload_n 2, 1) := by decide +kernel
theorem dX8_worked_38 : decode cX8_worked 38 = .ok (.if_icmp .ge 7, 3) := by decide +kernel
theorem dX8_worked_41 : decode cX8_worked 41 = .ok (.iconst 1, 1) := by decide +kernel
theorem dX8_worked_42 : decode cX8_worked 42 = .ok (.goto 4, 3) := by decide +kernel
theorem dX8_worked_45 : decode cX8_worked 45 = .ok (.iconst 0, 1) := by decide +kernel
theorem dX8_worked_46 : decode cX8_worked 46 = .ok (.ireturn, 1) := by decide +kernel
set_option maxHeartbeats 4000000 in
set_option maxRecDepth 100000 in
theorem s_X8_isIn (l : Launch) (d : Nat) {P : PP} {h : HP} (hv : Iv P h) (a1 : Int32) (a2 : Int32) (a3 : Int32) : Mt l yX8_isIn cX8_isIn 3 (some .boolean) (d + 1) [.int a1, .int a2, .int a3] h 0 0 (fun r h' => ∃ v : Int32, r = some (.int v) ∧ 0 ≤ v.toInt ∧ v.toInt ≤ 1 ∧ h = h' ∧ (v.toInt = 1 → a2.toInt ≤ a1.toInt ∧ a1.toInt ≤ a3.toInt) ∧ (v.toInt = 0 → ¬ (a2.toInt ≤ a1.toInt ∧ a1.toInt ≤ a3.toInt))) := by
  refine Mt_iv hv (by decide) (Nat.le_of_ble_eq_true rfl) ?_
  show Go l RX8 cX8_isIn 3 (g_rm (d + 1) 0 0) "isIn" (some .boolean) 117 0 0 (fun _ _ => True) (fun r h' => ∃ v : Int32, r = some (.int v) ∧ 0 ≤ v.toInt ∧ v.toInt ≤ 1 ∧ h = h' ∧ (v.toInt = 1 → a2.toInt ≤ a1.toInt ∧ a1.toInt ≤ a3.toInt) ∧ (v.toInt = 0 → ¬ (a2.toInt ≤ a1.toInt ∧ a1.toInt ≤ a3.toInt))) 0 0 [(0, .int a1), (1, .int a2), (2, .int a3)] [] h
  refine go_iload_n (pc := 0) rfl dX8_isIn_0 ?_
  refine go_iload_n (pc := 1) rfl dX8_isIn_1 ?_
  refine gf_icmp_lt (pc := 2) (tgt := 14) (ti_rfl a1) (ti_rfl a2) (by decide) dX8_isIn_2 (fun q1 => ?_) (fun q1 => ?_)
  ·
    refine go_iconst (pc := 14) (v := 0) (by decide) dX8_isIn_14 ?_
    exact gi_zret (pc := 15) (ti_c (v := 0) (a := 0) (by decide)) (by omega) (by omega) ⟨_, rfl, (by rw [show (0 : Int32).toInt = 0 from (ti_c (v := 0) (a := 0) (by decide))]; omega), (by rw [show (0 : Int32).toInt = 0 from (ti_c (v := 0) (a := 0) (by decide))]; omega), rfl, (by rw [show (0 : Int32).toInt = 0 from (ti_c (v := 0) (a := 0) (by decide))]; omega), (by rw [show (0 : Int32).toInt = 0 from (ti_c (v := 0) (a := 0) (by decide))]; omega)⟩ hv dX8_isIn_15
  ·
    refine go_iload_n (pc := 5) rfl dX8_isIn_5 ?_
    refine go_iload_n (pc := 6) rfl dX8_isIn_6 ?_
    refine gf_icmp_gt (pc := 7) (tgt := 14) (ti_rfl a1) (ti_rfl a3) (by decide) dX8_isIn_7 (fun q2 => ?_) (fun q2 => ?_)
    ·
      refine go_iconst (pc := 14) (v := 0) (by decide) dX8_isIn_14 ?_
      exact gi_zret (pc := 15) (ti_c (v := 0) (a := 0) (by decide)) (by omega) (by omega) ⟨_, rfl, (by rw [show (0 : Int32).toInt = 0 from (ti_c (v := 0) (a := 0) (by decide))]; omega), (by rw [show (0 : Int32).toInt = 0 from (ti_c (v := 0) (a := 0) (by decide))]; omega), rfl, (by rw [show (0 : Int32).toInt = 0 from (ti_c (v := 0) (a := 0) (by decide))]; omega), (by rw [show (0 : Int32).toInt = 0 from (ti_c (v := 0) (a := 0) (by decide))]; omega)⟩ hv dX8_isIn_15
    ·
      refine go_iconst (pc := 10) (v := 1) (by decide) dX8_isIn_10 ?_
      refine go_goto (pc := 11) (tgt := 15) (by decide) dX8_isIn_11 ?_
      exact gi_zret (pc := 15) (ti_c (v := 1) (a := 1) (by decide)) (by omega) (by omega) ⟨_, rfl, (by rw [show (1 : Int32).toInt = 1 from (ti_c (v := 1) (a := 1) (by decide))]; omega), (by rw [show (1 : Int32).toInt = 1 from (ti_c (v := 1) (a := 1) (by decide))]; omega), rfl, (by rw [show (1 : Int32).toInt = 1 from (ti_c (v := 1) (a := 1) (by decide))]; omega), (by rw [show (1 : Int32).toInt = 1 from (ti_c (v := 1) (a := 1) (by decide))]; omega)⟩ hv dX8_isIn_15
set_option maxHeartbeats 4000000 in
set_option maxRecDepth 100000 in
theorem s_X8_item (l : Launch) (d : Nat) {P : PP} {h : HP} (hv : Iv P h) (a2 : Int32) (a2l : 0 ≤ a2.toInt) (a2u : a2.toInt ≤ 39) : Mt l yX8_item cX8_item 2 (some .int) (d + 1) [.ref 70, .int a2] h 0 0 (fun r h' => ∃ v : Int32, r = some (.int v) ∧ 0 ≤ v.toInt ∧ v.toInt ≤ 259 ∧ h = h' ∧ (v.toInt = g_it h a2.toInt)) := by
  refine Mt_iv hv (by decide) (Nat.le_of_ble_eq_true rfl) ?_
  show Go l RX8 cX8_item 2 (g_rm (d + 1) 0 0) "item" (some .int) 117 0 0 (fun _ _ => True) (fun r h' => ∃ v : Int32, r = some (.int v) ∧ 0 ≤ v.toInt ∧ v.toInt ≤ 259 ∧ h = h' ∧ (v.toInt = g_it h a2.toInt)) 0 0 [(0, .ref 70), (1, .int a2)] [] h
  refine go_aload_n (pc := 0) rfl dX8_item_0 ?_
  refine gi_getF (pc := 1) (q := 93) hv fL_X8_77 rfl (Nat.le_of_ble_eq_true rfl) rfl (hv.rf (by decide)) dX8_item_1 ?_
  refine go_bipush (pc := 4) (v := 40) (by decide) dX8_item_4 ?_
  refine go_aload_n (pc := 6) rfl dX8_item_6 ?_
  refine gi_get (pc := 7) (lo := 0) (hi := 1) hv fL_X8_187 rfl (Nat.le_of_ble_eq_true rfl) rfl rfl dX8_item_7 (fun v1 v1l v1u v1w => ?_)
  refine gf_imul (pc := 10) (ti_c (v := 40) (a := 40) (by decide)) (ti_rfl v1) (by omega) (by omega) dX8_item_10 (fun v2 e3 => ?_)
  refine go_iload_n (pc := 11) rfl dX8_item_11 ?_
  refine gf_iadd (pc := 12) e3 (ti_rfl a2) (by omega) (by omega) dX8_item_12 (fun v4 e5 => ?_)
  refine gi_iald (pc := 13) (lo := 0) (hi := 259) (len := 80) hv e5 rfl (by omega) (by omega) (fun _ => rfl) dX8_item_13 (fun v6 v6l v6u v6w => ?_)
  exact gi_iret (pc := 14) (ti_rfl v6) ⟨_, rfl, (by rw [show (v6 : Int32).toInt = v6.toInt from (ti_rfl v6)]; omega), (by rw [show (v6 : Int32).toInt = v6.toInt from (ti_rfl v6)]; omega), rfl, (by show v6.toInt = g_it h a2.toInt; unfold g_it; rw [v6w, v1w])⟩ hv dX8_item_14
set_option maxHeartbeats 4000000 in
set_option maxRecDepth 100000 in
theorem s_X8_kindAt (l : Launch) (d : Nat) {P : PP} {h : HP} (hv : Iv P h) (a2 : Int32) (a2l : 0 ≤ a2.toInt) (a2u : a2.toInt ≤ 39) : Mt l yX8_kindAt cX8_kindAt 2 (some .int) (d + 2) [.ref 70, .int a2] h 0 0 (fun r h' => ∃ v : Int32, r = some (.int v) ∧ 0 ≤ v.toInt ∧ v.toInt ≤ 6 ∧ h = h' ∧ (v.toInt = g_kd h a2.toInt)) := by
  refine Mt_iv hv (by decide) (Nat.le_of_ble_eq_true rfl) ?_
  show Go l RX8 cX8_kindAt 2 (g_rm (d + 2) 0 0) "kindAt" (some .int) 117 0 0 (fun _ _ => True) (fun r h' => ∃ v : Int32, r = some (.int v) ∧ 0 ≤ v.toInt ∧ v.toInt ≤ 6 ∧ h = h' ∧ (v.toInt = g_kd h a2.toInt)) 0 0 [(0, .ref 70), (1, .int a2)] [] h
  refine go_aload_n (pc := 0) rfl dX8_kindAt_0 ?_
  refine gi_getF (pc := 1) (q := 77) hv fL_X8_29 rfl (Nat.le_of_ble_eq_true rfl) rfl (hv.rf (by decide)) dX8_kindAt_1 ?_
  refine go_aload_n (pc := 4) rfl dX8_kindAt_4 ?_
  refine go_iload_n (pc := 5) rfl dX8_kindAt_5 ?_
  refine go_invV (pc := 6) (sl := 0) (s_X8_item l (d + 0) hv a2 (by rw [show (a2 : Int32).toInt = a2.toInt from (ti_rfl a2)]; omega) (by rw [show (a2 : Int32).toInt = a2.toInt from (ti_rfl a2)]; omega)) mL_X8_268 iM_X8_item sM_X8_item (hv.sh rfl) rfl rfl rfl (Nat.le_of_ble_eq_true rfl) (show d + 0 + 1 + 1 ≤ d + 2 by omega) (show 8 + (2 + 11) + 40 * (d + 0 + 1) ≤ 40 * (d + 2) by omega) (g_c0 hv.ln) (Nat.le_of_ble_eq_true rfl) dX8_kindAt_6 ?_
  intro r h1 hq _
  obtain ⟨v3, rfl, v3l, v3u, rfl, f2⟩ := hq
  refine gi_iald (pc := 9) (lo := 0) (hi := 6) (len := 260) hv (ti_rfl v3) rfl (by omega) (by omega) (fun _ => rfl) dX8_kindAt_9 (fun v4 v4l v4u v4w => ?_)
  exact gi_iret (pc := 10) (ti_rfl v4) ⟨_, rfl, (by rw [show (v4 : Int32).toInt = v4.toInt from (ti_rfl v4)]; omega), (by rw [show (v4 : Int32).toInt = v4.toInt from (ti_rfl v4)]; omega), rfl, (by show v4.toInt = g_kd h a2.toInt; unfold g_kd; rw [v4w, f2])⟩ hv dX8_kindAt_10
set_option maxHeartbeats 4000000 in
set_option maxRecDepth 100000 in
theorem s_X8_statementPlace (l : Launch) (d : Nat) {P : PP} {h : HP} (hv : Iv P h) (a1 : Int32) (a1l : 0 ≤ a1.toInt) (a1u : a1.toInt ≤ 39) (a2 : Int32) (a2l : 0 ≤ a2.toInt) (a2u : a2.toInt ≤ 12) : Mt l yX8_statementPlace cX8_statementPlace 2 (some .int) (d + 1) [.int a1, .int a2] h 0 0 (fun r h' => ∃ v : Int32, r = some (.int v) ∧ 0 ≤ v.toInt ∧ v.toInt ≤ 519 ∧ h = h') := by
  refine Mt_iv hv (by decide) (Nat.le_of_ble_eq_true rfl) ?_
  show Go l RX8 cX8_statementPlace 2 (g_rm (d + 1) 0 0) "statementPlace" (some .int) 117 0 0 (fun _ _ => True) (fun r h' => ∃ v : Int32, r = some (.int v) ∧ 0 ≤ v.toInt ∧ v.toInt ≤ 519 ∧ h = h') 0 0 [(0, .int a1), (1, .int a2)] [] h
  refine go_bipush (pc := 0) (v := 13) (by decide) dX8_statementPlace_0 ?_
  refine go_iload_n (pc := 2) rfl dX8_statementPlace_2 ?_
  refine gf_imul (pc := 3) (ti_c (v := 13) (a := 13) (by decide)) (ti_rfl a1) (by omega) (by omega) dX8_statementPlace_3 (fun v1 e2 => ?_)
  refine go_iload_n (pc := 4) rfl dX8_statementPlace_4 ?_
  refine gf_iadd (pc := 5) e2 (ti_rfl a2) (by omega) (by omega) dX8_statementPlace_5 (fun v3 e4 => ?_)
  exact gi_iret (pc := 6) e4 ⟨_, rfl, (by rw [show (v3 : Int32).toInt = ((13 * a1.toInt) + a2.toInt) from e4]; omega), (by rw [show (v3 : Int32).toInt = ((13 * a1.toInt) + a2.toInt) from e4]; omega), rfl⟩ hv dX8_statementPlace_6
set_option maxHeartbeats 4000000 in
set_option maxRecDepth 100000 in
theorem s_X8_procedurePlace (l : Launch) (d : Nat) {P : PP} {h : HP} (hv : Iv P h) (a1 : Int32) (a1l : 0 ≤ a1.toInt) (a1u : a1.toInt ≤ 4) (a2 : Int32) (a2l : 0 ≤ a2.toInt) (a2u : a2.toInt ≤ 12) : Mt l yX8_procedurePlace cX8_procedurePlace 2 (some .int) (d + 1) [.int a1, .int a2] h 0 0 (fun r h' => ∃ v : Int32, r = some (.int v) ∧ 520 ≤ v.toInt ∧ v.toInt ≤ 584 ∧ h = h') := by
  refine Mt_iv hv (by decide) (Nat.le_of_ble_eq_true rfl) ?_
  show Go l RX8 cX8_procedurePlace 2 (g_rm (d + 1) 0 0) "procedurePlace" (some .int) 117 0 0 (fun _ _ => True) (fun r h' => ∃ v : Int32, r = some (.int v) ∧ 520 ≤ v.toInt ∧ v.toInt ≤ 584 ∧ h = h') 0 0 [(0, .int a1), (1, .int a2)] [] h
  refine go_sipush (pc := 0) (v := 520) (by decide) dX8_procedurePlace_0 ?_
  refine go_bipush (pc := 3) (v := 13) (by decide) dX8_procedurePlace_3 ?_
  refine go_iload_n (pc := 5) rfl dX8_procedurePlace_5 ?_
  refine gf_imul (pc := 6) (ti_c (v := 13) (a := 13) (by decide)) (ti_rfl a1) (by omega) (by omega) dX8_procedurePlace_6 (fun v1 e2 => ?_)
  refine gf_iadd (pc := 7) (ti_c (v := 520) (a := 520) (by decide)) e2 (by omega) (by omega) dX8_procedurePlace_7 (fun v3 e4 => ?_)
  refine go_iload_n (pc := 8) rfl dX8_procedurePlace_8 ?_
  refine gf_iadd (pc := 9) e4 (ti_rfl a2) (by omega) (by omega) dX8_procedurePlace_9 (fun v5 e6 => ?_)
  exact gi_iret (pc := 10) e6 ⟨_, rfl, (by rw [show (v5 : Int32).toInt = ((520 + (13 * a1.toInt)) + a2.toInt) from e6]; omega), (by rw [show (v5 : Int32).toInt = ((520 + (13 * a1.toInt)) + a2.toInt) from e6]; omega), rfl⟩ hv dX8_procedurePlace_10
set_option maxHeartbeats 4000000 in
set_option maxRecDepth 100000 in
theorem s_X8_isStatement (l : Launch) (d : Nat) {P : PP} {h : HP} (hv : Iv P h) (a2 : Int32) : Mt l yX8_isStatement cX8_isStatement 2 (some .boolean) (d + 2) [.ref 70, .int a2] h 0 0 (fun r h' => ∃ v : Int32, r = some (.int v) ∧ 0 ≤ v.toInt ∧ v.toInt ≤ 1 ∧ h = h' ∧ (v.toInt = 1 → 0 ≤ a2.toInt ∧ a2.toInt ≤ 39)) := by
  refine Mt_iv hv (by decide) (Nat.le_of_ble_eq_true rfl) ?_
  show Go l RX8 cX8_isStatement 2 (g_rm (d + 2) 0 0) "isStatement" (some .boolean) 117 0 0 (fun _ _ => True) (fun r h' => ∃ v : Int32, r = some (.int v) ∧ 0 ≤ v.toInt ∧ v.toInt ≤ 1 ∧ h = h' ∧ (v.toInt = 1 → 0 ≤ a2.toInt ∧ a2.toInt ≤ 39)) 0 0 [(0, .ref 70), (1, .int a2)] [] h
  refine go_aload_n (pc := 0) rfl dX8_isStatement_0 ?_
  refine gi_get (pc := 1) (lo := 0) (hi := 1) hv fL_X8_243 rfl (Nat.le_of_ble_eq_true rfl) rfl rfl dX8_isStatement_1 (fun v1 v1l v1u v1w => ?_)
  refine gf_if_eq (pc := 4) (tgt := 30) (ti_rfl v1) (by decide) dX8_isStatement_4 (fun q2 => ?_) (fun q2 => ?_)
  ·
    refine go_iconst (pc := 30) (v := 0) (by decide) dX8_isStatement_30 ?_
    exact gi_zret (pc := 31) (ti_c (v := 0) (a := 0) (by decide)) (by omega) (by omega) ⟨_, rfl, (by rw [show (0 : Int32).toInt = 0 from (ti_c (v := 0) (a := 0) (by decide))]; omega), (by rw [show (0 : Int32).toInt = 0 from (ti_c (v := 0) (a := 0) (by decide))]; omega), rfl, (by rw [show (0 : Int32).toInt = 0 from (ti_c (v := 0) (a := 0) (by decide))]; omega)⟩ hv dX8_isStatement_31
  ·
    refine go_iload_n (pc := 7) rfl dX8_isStatement_7 ?_
    refine go_iconst (pc := 8) (v := 0) (by decide) dX8_isStatement_8 ?_
    refine go_aload_n (pc := 9) rfl dX8_isStatement_9 ?_
    refine gi_getF (pc := 10) (q := 75) hv fL_X8_23 rfl (Nat.le_of_ble_eq_true rfl) rfl (hv.rf (by decide)) dX8_isStatement_10 ?_
    refine go_aload_n (pc := 13) rfl dX8_isStatement_13 ?_
    refine gi_get (pc := 14) (lo := 0) (hi := 1) hv fL_X8_228 rfl (Nat.le_of_ble_eq_true rfl) rfl rfl dX8_isStatement_14 (fun v3 v3l v3u v3w => ?_)
    refine gi_iald (pc := 17) (lo := 0) (hi := 40) (len := 2) hv (ti_rfl v3) rfl (by omega) (by omega) (fun _ => rfl) dX8_isStatement_17 (fun v4 v4l v4u v4w => ?_)
    refine go_iconst (pc := 18) (v := 1) (by decide) dX8_isStatement_18 ?_
    refine gf_isub (pc := 19) (ti_rfl v4) (ti_c (v := 1) (a := 1) (by decide)) (by omega) (by omega) dX8_isStatement_19 (fun v5 e6 => ?_)
    refine go_invS (pc := 20) (sl := 0) (s_X8_isIn l (d + 0) hv a2 0 v5) mL_X8_159 iM_X8_isIn rfl rfl (Nat.le_of_ble_eq_true rfl) (show d + 0 + 1 + 1 ≤ d + 2 by omega) (show 8 + (3 + 11) + 40 * (d + 0 + 1) ≤ 40 * (d + 2) by omega) (g_c0 hv.ln) (Nat.le_of_ble_eq_true rfl) dX8_isStatement_20 ?_
    intro r h7 hq _
    obtain ⟨v10, rfl, v10l, v10u, rfl, f8, f9⟩ := hq
    try rw [show (0 : Int32).toInt = 0 from (ti_c (v := 0) (a := 0) (by decide))] at f8
    try rw [show (v5 : Int32).toInt = (v4.toInt - 1) from e6] at f8
    try rw [show (0 : Int32).toInt = 0 from (ti_c (v := 0) (a := 0) (by decide))] at f9
    try rw [show (v5 : Int32).toInt = (v4.toInt - 1) from e6] at f9
    refine gf_if_eq (pc := 23) (tgt := 30) (ti_rfl v10) (by decide) dX8_isStatement_23 (fun q11 => ?_) (fun q11 => ?_)
    ·
      refine go_iconst (pc := 30) (v := 0) (by decide) dX8_isStatement_30 ?_
      exact gi_zret (pc := 31) (ti_c (v := 0) (a := 0) (by decide)) (by omega) (by omega) ⟨_, rfl, (by rw [show (0 : Int32).toInt = 0 from (ti_c (v := 0) (a := 0) (by decide))]; omega), (by rw [show (0 : Int32).toInt = 0 from (ti_c (v := 0) (a := 0) (by decide))]; omega), rfl, (by rw [show (0 : Int32).toInt = 0 from (ti_c (v := 0) (a := 0) (by decide))]; omega)⟩ hv dX8_isStatement_31
    ·
      refine go_iconst (pc := 26) (v := 1) (by decide) dX8_isStatement_26 ?_
      refine go_goto (pc := 27) (tgt := 31) (by decide) dX8_isStatement_27 ?_
      exact gi_zret (pc := 31) (ti_c (v := 1) (a := 1) (by decide)) (by omega) (by omega) ⟨_, rfl, (by rw [show (1 : Int32).toInt = 1 from (ti_c (v := 1) (a := 1) (by decide))]; omega), (by rw [show (1 : Int32).toInt = 1 from (ti_c (v := 1) (a := 1) (by decide))]; omega), rfl, (by rw [show (1 : Int32).toInt = 1 from (ti_c (v := 1) (a := 1) (by decide))]; omega)⟩ hv dX8_isStatement_31
set_option maxHeartbeats 4000000 in
set_option maxRecDepth 100000 in
theorem s_X8_calls (l : Launch) (d : Nat) {P : PP} {h : HP} (hv : Iv P h)  : Mt l yX8_calls cX8_calls 3 (some .int) (d + 3) [.ref 70] h 0 0 (fun r h' => ∃ v : Int32, r = some (.int v) ∧ -2147483648 ≤ v.toInt ∧ v.toInt ≤ 2147483647 ∧ h = h') := by
  refine Mt_iv hv (by decide) (Nat.le_of_ble_eq_true rfl) ?_
  show Go l RX8 cX8_calls 3 (g_rm (d + 3) 0 0) "calls" (some .int) 117 0 0 (fun _ _ => True) (fun r h' => ∃ v : Int32, r = some (.int v) ∧ -2147483648 ≤ v.toInt ∧ v.toInt ≤ 2147483647 ∧ h = h') 0 0 [(0, .ref 70)] [] h
  have key : ∀ n : Nat, (∀ (l1 : Int32) (l2 : Int32), 0 ≤ l2.toInt → l2.toInt ≤ 40 → (4 * (40 - l2.toInt) + 3 : Int) < n → Go l RX8 cX8_calls 3 (g_rm (d + 3) 0 0) "calls" (some .int) 117 0 0 (fun _ _ => True) (fun r h' => ∃ v : Int32, r = some (.int v) ∧ -2147483648 ≤ v.toInt ∧ v.toInt ≤ 2147483647 ∧ h = h') 0 4 [(0, .ref 70), (1, .int l1), (2, .int l2)] [] h) ∧ (∀ (l2 : Int32) (s0 : Int32) (s1 : Int32), 0 ≤ l2.toInt → l2.toInt ≤ 39 → 0 ≤ s0.toInt → s0.toInt ≤ 1 → (4 * (40 - l2.toInt) + 2 : Int) < n → Go l RX8 cX8_calls 3 (g_rm (d + 3) 0 0) "calls" (some .int) 117 0 0 (fun _ _ => True) (fun r h' => ∃ v : Int32, r = some (.int v) ∧ -2147483648 ≤ v.toInt ∧ v.toInt ≤ 2147483647 ∧ h = h') 0 32 [(0, .ref 70), (2, .int l2)] [.int s0, .int s1] h) := by
    intro n
    induction n with
    | zero => exact ⟨(by intros; omega), (by intros; omega)⟩
    | succ n ih =>
      refine ⟨?_, ?_⟩
      ·
        intro l1 l2 l2l l2u hm
        refine go_iload_n (pc := 4) rfl dX8_calls_4 ?_
        refine go_aload_n (pc := 5) rfl dX8_calls_5 ?_
        refine gi_getF (pc := 6) (q := 75) hv fL_X8_23 rfl (Nat.le_of_ble_eq_true rfl) rfl (hv.rf (by decide)) dX8_calls_6 ?_
        refine go_aload_n (pc := 9) rfl dX8_calls_9 ?_
        refine gi_get (pc := 10) (lo := 0) (hi := 1) hv fL_X8_228 rfl (Nat.le_of_ble_eq_true rfl) rfl rfl dX8_calls_10 (fun v1 v1l v1u v1w => ?_)
        refine gi_iald (pc := 13) (lo := 0) (hi := 40) (len := 2) hv (ti_rfl v1) rfl (by omega) (by omega) (fun _ => rfl) dX8_calls_13 (fun v2 v2l v2u v2w => ?_)
        refine gf_icmp_ge (pc := 14) (tgt := 40) (ti_rfl l2) (ti_rfl v2) (by decide) dX8_calls_14 (fun q3 => ?_) (fun q3 => ?_)
        ·
          refine go_iload_n (pc := 40) rfl dX8_calls_40 ?_
          exact gi_iret (pc := 41) (ti_rfl l1) ⟨_, rfl, (ti_lo _), (ti_hi _), rfl⟩ hv dX8_calls_41
        ·
          refine go_iload_n (pc := 17) rfl dX8_calls_17 ?_
          refine go_aload_n (pc := 18) rfl dX8_calls_18 ?_
          refine go_iload_n (pc := 19) rfl dX8_calls_19 ?_
          refine go_invV (pc := 20) (sl := 0) (s_X8_kindAt l (d + 0) hv l2 (by rw [show (l2 : Int32).toInt = l2.toInt from (ti_rfl l2)]; omega) (by rw [show (l2 : Int32).toInt = l2.toInt from (ti_rfl l2)]; omega)) mL_X8_271 iM_X8_kindAt sM_X8_kindAt (hv.sh rfl) rfl rfl rfl (Nat.le_of_ble_eq_true rfl) (show d + 0 + 2 + 1 ≤ d + 3 by omega) (show 8 + (2 + 11) + 40 * (d + 0 + 2) ≤ 40 * (d + 3) by omega) (g_c0 hv.ln) (Nat.le_of_ble_eq_true rfl) dX8_calls_20 ?_
          intro r h4 hq _
          obtain ⟨v6, rfl, v6l, v6u, rfl, f5⟩ := hq
          refine go_iconst (pc := 23) (v := 1) (by decide) dX8_calls_23 ?_
          refine gf_icmp_ne (pc := 24) (tgt := 31) (ti_rfl v6) (ti_c (v := 1) (a := 1) (by decide)) (by decide) dX8_calls_24 (fun q7 => ?_) (fun q7 => ?_)
          ·
            refine go_iconst (pc := 31) (v := 0) (by decide) dX8_calls_31 ?_
            have z8 : (0 : Int32).toInt = 0 := (ti_c (v := 0) (a := 0) (by decide))
            exact go_lv rfl (ih.2 l2 0 l1  (by omega) (by omega) (by omega) (by omega) (by omega))
          ·
            refine go_iconst (pc := 27) (v := 1) (by decide) dX8_calls_27 ?_
            refine go_goto (pc := 28) (tgt := 32) (by decide) dX8_calls_28 ?_
            have z9 : (1 : Int32).toInt = 1 := (ti_c (v := 1) (a := 1) (by decide))
            exact go_lv rfl (ih.2 l2 1 l1  (by omega) (by omega) (by omega) (by omega) (by omega))
      ·
        intro l2 s0 s1 l2l l2u s0l s0u hm
        refine gu_iadd (pc := 32) dX8_calls_32 (fun v10 => ?_)
        refine go_istore_n (pc := 33) (Nat.le_of_ble_eq_true rfl) dX8_calls_33 (go_lv (lv2 := [(0, .ref 70), (1, .int v10), (2, .int l2)]) rfl ?_)
        refine gf_iinc (pc := 34) (Nat.le_of_ble_eq_true rfl) rfl (ti_rfl l2) (ti_c (by decide)) (by omega) (by omega) dX8_calls_34 (fun v11 e12 => ?_)
        refine go_lv (lv2 := [(0, .ref 70), (1, .int v10), (2, .int v11)]) rfl ?_
        refine go_goto (pc := 37) (tgt := 4) (by decide) dX8_calls_37 ?_
        have z13 : (v11 : Int32).toInt = (l2.toInt + 1) := e12
        exact go_lv rfl (ih.1 v10 v11  (by omega) (by omega) (by omega))
  refine go_iconst (pc := 0) (v := 0) (by decide) dX8_calls_0 ?_
  refine go_istore_n (pc := 1) (Nat.le_of_ble_eq_true rfl) dX8_calls_1 (go_lv (lv2 := [(0, .ref 70), (1, .int 0)]) rfl ?_)
  refine go_iconst (pc := 2) (v := 0) (by decide) dX8_calls_2 ?_
  refine go_istore_n (pc := 3) (Nat.le_of_ble_eq_true rfl) dX8_calls_3 (go_lv (lv2 := [(0, .ref 70), (1, .int 0), (2, .int 0)]) rfl ?_)
  have z14 : (0 : Int32).toInt = 0 := (ti_c (v := 0) (a := 0) (by decide))
  have z15 : (0 : Int32).toInt = 0 := (ti_c (v := 0) (a := 0) (by decide))
  exact go_lv rfl ((key 181).1 0 0  (by omega) (by omega) (by omega))
set_option maxHeartbeats 4000000 in
set_option maxRecDepth 100000 in
theorem s_X8_isKept (l : Launch) (d : Nat) {P : PP} {h : HP} (hv : Iv P h) (a2 : Int32) (a2l : 0 ≤ a2.toInt) (a2u : a2.toInt ≤ 584) : Mt l yX8_isKept cX8_isKept 2 (some .boolean) (d + 1) [.ref 70, .int a2] h 0 0 (fun r h' => ∃ v : Int32, r = some (.int v) ∧ 0 ≤ v.toInt ∧ v.toInt ≤ 1 ∧ h = h') := by
  refine Mt_iv hv (by decide) (Nat.le_of_ble_eq_true rfl) ?_
  show Go l RX8 cX8_isKept 2 (g_rm (d + 1) 0 0) "isKept" (some .boolean) 117 0 0 (fun _ _ => True) (fun r h' => ∃ v : Int32, r = some (.int v) ∧ 0 ≤ v.toInt ∧ v.toInt ≤ 1 ∧ h = h') 0 0 [(0, .ref 70), (1, .int a2)] [] h
  have key : ∀ n : Nat, (∀ (s0 : Int32), 0 ≤ s0.toInt → s0.toInt ≤ 1 → (1 : Int) < n → Go l RX8 cX8_isKept 2 (g_rm (d + 1) 0 0) "isKept" (some .boolean) 117 0 0 (fun _ _ => True) (fun r h' => ∃ v : Int32, r = some (.int v) ∧ 0 ≤ v.toInt ∧ v.toInt ≤ 1 ∧ h = h') 0 25 [] [.int s0] h) := by
    intro n
    induction n with
    | zero => exact (by intros; omega)
    | succ n ih =>
      refine ?_
      ·
        intro s0 s0l s0u hm
        exact gi_zret (pc := 25) (ti_rfl s0) (by omega) (by omega) ⟨_, rfl, (by rw [show (s0 : Int32).toInt = s0.toInt from (ti_rfl s0)]; omega), (by rw [show (s0 : Int32).toInt = s0.toInt from (ti_rfl s0)]; omega), rfl⟩ hv dX8_isKept_25
  refine go_aload_n (pc := 0) rfl dX8_isKept_0 ?_
  refine gi_getF (pc := 1) (q := 112) hv fL_X8_136 rfl (Nat.le_of_ble_eq_true rfl) rfl (hv.rf (by decide)) dX8_isKept_1 ?_
  refine go_iload_n (pc := 4) rfl dX8_isKept_4 ?_
  refine go_bipush (pc := 5) (v := 32) (by decide) dX8_isKept_5 ?_
  refine gf_idiv (pc := 7) (ti_rfl a2) (ti_c (v := 32) (a := 32) (by decide)) (by omega) (by omega) dX8_isKept_7 (fun v1 e2 => ?_)
  refine gi_iald (pc := 8) (lo := -2147483648) (hi := 2147483647) (len := 19) hv e2 rfl (by omega) (by omega) (fun _ => rfl) dX8_isKept_8 (fun v3 v3l v3u v3w => ?_)
  refine go_iload_n (pc := 9) rfl dX8_isKept_9 ?_
  refine go_bipush (pc := 10) (v := 32) (by decide) dX8_isKept_10 ?_
  refine gf_irem (pc := 12) (ti_rfl a2) (ti_c (v := 32) (a := 32) (by decide)) (by omega) (by omega) dX8_isKept_12 (fun v4 e5 => ?_)
  refine gu_iushr (pc := 13) dX8_isKept_13 (fun v6 => ?_)
  refine go_iconst (pc := 14) (v := 1) (by decide) dX8_isKept_14 ?_
  refine gf_iand (pc := 15) (ti_c (v := 1) (a := 1) (by decide)) (by omega) dX8_isKept_15 (fun v7 v7l v7u => ?_)
  refine go_iconst (pc := 16) (v := 1) (by decide) dX8_isKept_16 ?_
  refine gf_icmp_ne (pc := 17) (tgt := 24) (ti_rfl v7) (ti_c (v := 1) (a := 1) (by decide)) (by decide) dX8_isKept_17 (fun q8 => ?_) (fun q8 => ?_)
  ·
    refine go_iconst (pc := 24) (v := 0) (by decide) dX8_isKept_24 ?_
    have z9 : (0 : Int32).toInt = 0 := (ti_c (v := 0) (a := 0) (by decide))
    exact go_lv rfl ((key 14) 0  (by omega) (by omega) (by omega))
  ·
    refine go_iconst (pc := 20) (v := 1) (by decide) dX8_isKept_20 ?_
    refine go_goto (pc := 21) (tgt := 25) (by decide) dX8_isKept_21 ?_
    have z10 : (1 : Int32).toInt = 1 := (ti_c (v := 1) (a := 1) (by decide))
    exact go_lv rfl ((key 14) 1  (by omega) (by omega) (by omega))
set_option maxHeartbeats 4000000 in
set_option maxRecDepth 100000 in
theorem s_X8_isAnyKept (l : Launch) (d : Nat) {P : PP} {h : HP} (hv : Iv P h) (a2 : Int32) (a2l : 0 ≤ a2.toInt) (a2u : a2.toInt ≤ 39) : Mt l yX8_isAnyKept cX8_isAnyKept 3 (some .boolean) (d + 2) [.ref 70, .int a2] h 0 0 (fun r h' => ∃ v : Int32, r = some (.int v) ∧ 0 ≤ v.toInt ∧ v.toInt ≤ 1 ∧ h = h') := by
  refine Mt_iv hv (by decide) (Nat.le_of_ble_eq_true rfl) ?_
  show Go l RX8 cX8_isAnyKept 3 (g_rm (d + 2) 0 0) "isAnyKept" (some .boolean) 117 0 0 (fun _ _ => True) (fun r h' => ∃ v : Int32, r = some (.int v) ∧ 0 ≤ v.toInt ∧ v.toInt ≤ 1 ∧ h = h') 0 0 [(0, .ref 70), (1, .int a2)] [] h
  have key : ∀ n : Nat, (∀ (l1 : Int32) (l2 : Int32), 0 ≤ l1.toInt → l1.toInt ≤ 39 → 0 ≤ l2.toInt → l2.toInt ≤ 13 → (3 * (13 - l2.toInt) + 2 : Int) < n → Go l RX8 cX8_isAnyKept 3 (g_rm (d + 2) 0 0) "isAnyKept" (some .boolean) 117 0 0 (fun _ _ => True) (fun r h' => ∃ v : Int32, r = some (.int v) ∧ 0 ≤ v.toInt ∧ v.toInt ≤ 1 ∧ h = h') 0 2 [(0, .ref 70), (1, .int l1), (2, .int l2)] [] h) := by
    intro n
    induction n with
    | zero => exact (by intros; omega)
    | succ n ih =>
      refine ?_
      ·
        intro l1 l2 l1l l1u l2l l2u hm
        refine go_iload_n (pc := 2) rfl dX8_isAnyKept_2 ?_
        refine go_bipush (pc := 3) (v := 13) (by decide) dX8_isAnyKept_3 ?_
        refine gf_icmp_ge (pc := 5) (tgt := 28) (ti_rfl l2) (ti_c (v := 13) (a := 13) (by decide)) (by decide) dX8_isAnyKept_5 (fun q1 => ?_) (fun q1 => ?_)
        ·
          refine go_iconst (pc := 28) (v := 0) (by decide) dX8_isAnyKept_28 ?_
          exact gi_zret (pc := 29) (ti_c (v := 0) (a := 0) (by decide)) (by omega) (by omega) ⟨_, rfl, (by rw [show (0 : Int32).toInt = 0 from (ti_c (v := 0) (a := 0) (by decide))]; omega), (by rw [show (0 : Int32).toInt = 0 from (ti_c (v := 0) (a := 0) (by decide))]; omega), rfl⟩ hv dX8_isAnyKept_29
        ·
          refine go_aload_n (pc := 8) rfl dX8_isAnyKept_8 ?_
          refine go_iload_n (pc := 9) rfl dX8_isAnyKept_9 ?_
          refine go_iload_n (pc := 10) rfl dX8_isAnyKept_10 ?_
          refine go_invS (pc := 11) (sl := 0) (s_X8_statementPlace l (d + 0) hv l1 (by rw [show (l1 : Int32).toInt = l1.toInt from (ti_rfl l1)]; omega) (by rw [show (l1 : Int32).toInt = l1.toInt from (ti_rfl l1)]; omega) l2 (by rw [show (l2 : Int32).toInt = l2.toInt from (ti_rfl l2)]; omega) (by rw [show (l2 : Int32).toInt = l2.toInt from (ti_rfl l2)]; omega)) mL_X8_291 iM_X8_statementPlace rfl rfl (Nat.le_of_ble_eq_true rfl) (show d + 0 + 1 + 1 ≤ d + 2 by omega) (show 8 + (2 + 11) + 40 * (d + 0 + 1) ≤ 40 * (d + 2) by omega) (g_c0 hv.ln) (Nat.le_of_ble_eq_true rfl) dX8_isAnyKept_11 ?_
          intro r h2 hq _
          obtain ⟨v3, rfl, v3l, v3u, rfl⟩ := hq
          refine go_invV (pc := 14) (sl := 0) (s_X8_isKept l (d + 0) hv v3 (by rw [show (v3 : Int32).toInt = v3.toInt from (ti_rfl v3)]; omega) (by rw [show (v3 : Int32).toInt = v3.toInt from (ti_rfl v3)]; omega)) mL_X8_401 iM_X8_isKept sM_X8_isKept (hv.sh rfl) rfl rfl rfl (Nat.le_of_ble_eq_true rfl) (show d + 0 + 1 + 1 ≤ d + 2 by omega) (show 8 + (2 + 11) + 40 * (d + 0 + 1) ≤ 40 * (d + 2) by omega) (g_c0 hv.ln) (Nat.le_of_ble_eq_true rfl) dX8_isAnyKept_14 ?_
          intro r h4 hq _
          obtain ⟨v5, rfl, v5l, v5u, rfl⟩ := hq
          refine gf_if_eq (pc := 17) (tgt := 22) (ti_rfl v5) (by decide) dX8_isAnyKept_17 (fun q6 => ?_) (fun q6 => ?_)
          ·
            refine gf_iinc (pc := 22) (Nat.le_of_ble_eq_true rfl) rfl (ti_rfl l2) (ti_c (by decide)) (by omega) (by omega) dX8_isAnyKept_22 (fun v7 e8 => ?_)
            refine go_lv (lv2 := [(0, .ref 70), (1, .int l1), (2, .int v7)]) rfl ?_
            refine go_goto (pc := 25) (tgt := 2) (by decide) dX8_isAnyKept_25 ?_
            have z9 : (v7 : Int32).toInt = (l2.toInt + 1) := e8
            exact go_lv rfl (ih l1 v7  (by omega) (by omega) (by omega) (by omega) (by omega))
          ·
            refine go_iconst (pc := 20) (v := 1) (by decide) dX8_isAnyKept_20 ?_
            exact gi_zret (pc := 21) (ti_c (v := 1) (a := 1) (by decide)) (by omega) (by omega) ⟨_, rfl, (by rw [show (1 : Int32).toInt = 1 from (ti_c (v := 1) (a := 1) (by decide))]; omega), (by rw [show (1 : Int32).toInt = 1 from (ti_c (v := 1) (a := 1) (by decide))]; omega), rfl⟩ hv dX8_isAnyKept_21
  refine go_iconst (pc := 0) (v := 0) (by decide) dX8_isAnyKept_0 ?_
  refine go_istore_n (pc := 1) (Nat.le_of_ble_eq_true rfl) dX8_isAnyKept_1 (go_lv (lv2 := [(0, .ref 70), (1, .int a2), (2, .int 0)]) rfl ?_)
  have z10 : (0 : Int32).toInt = 0 := (ti_c (v := 0) (a := 0) (by decide))
  exact go_lv rfl ((key 58) a2 0  (by omega) (by omega) (by omega) (by omega) (by omega))
set_option maxHeartbeats 4000000 in
set_option maxRecDepth 100000 in
theorem s_X8_ended (l : Launch) (d : Nat) {P : PP} {h : HP} (hv : Iv P h) (a2 : Int32) : Mt l yX8_ended cX8_ended 2 (some .int) (d + 1) [.ref 70, .int a2] h 0 0 (fun r h' => ∃ v : Int32, r = some (.int v) ∧ -2147483648 ≤ v.toInt ∧ v.toInt ≤ 2147483647 ∧ h = h') := by
  refine Mt_iv hv (by decide) (Nat.le_of_ble_eq_true rfl) ?_
  show Go l RX8 cX8_ended 2 (g_rm (d + 1) 0 0) "ended" (some .int) 117 0 0 (fun _ _ => True) (fun r h' => ∃ v : Int32, r = some (.int v) ∧ -2147483648 ≤ v.toInt ∧ v.toInt ≤ 2147483647 ∧ h = h') 0 0 [(0, .ref 70), (1, .int a2)] [] h
  have key : ∀ n : Nat, (∀ (_ : Unit), (1 : Int) < n → Go l RX8 cX8_ended 2 (g_rm (d + 1) 0 0) "ended" (some .int) 117 0 0 (fun _ _ => True) (fun r h' => ∃ v : Int32, r = some (.int v) ∧ -2147483648 ≤ v.toInt ∧ v.toInt ≤ 2147483647 ∧ h = h') 0 14 [] [] h) := by
    intro n
    induction n with
    | zero => exact (by intros; omega)
    | succ n ih =>
      refine ?_
      ·
        intro _ hm
        refine go_iconst (pc := 14) (v := (-1)) (by decide) dX8_ended_14 ?_
        exact gi_iret (pc := 15) (ti_c (v := (-1)) (a := (-1)) (by decide)) ⟨_, rfl, (ti_lo _), (ti_hi _), rfl⟩ hv dX8_ended_15
  refine go_aload_n (pc := 0) rfl dX8_ended_0 ?_
  refine gi_get (pc := 1) (lo := 0) (hi := 1) hv fL_X8_243 rfl (Nat.le_of_ble_eq_true rfl) rfl rfl dX8_ended_1 (fun v1 v1l v1u v1w => ?_)
  refine gf_if_eq (pc := 4) (tgt := 14) (ti_rfl v1) (by decide) dX8_ended_4 (fun q2 => ?_) (fun q2 => ?_)
  ·
    exact go_lv rfl ((key 14) ()   (by omega))
  ·
    refine go_aload_n (pc := 7) rfl dX8_ended_7 ?_
    refine gi_get (pc := 8) (lo := 0) (hi := 1) hv fL_X8_247 rfl (Nat.le_of_ble_eq_true rfl) rfl rfl dX8_ended_8 (fun v3 v3l v3u v3w => ?_)
    refine gf_if_ne (pc := 11) (tgt := 16) (ti_rfl v3) (by decide) dX8_ended_11 (fun q4 => ?_) (fun q4 => ?_)
    ·
      refine go_iload_n (pc := 16) rfl dX8_ended_16 ?_
      by_cases q5 : a2.toInt = 0
      ·
        refine go_tableIn (pc := 17) (tgt := 60) (off := 43) (by rw [show (a2 : Int32).toInt = a2.toInt from (ti_rfl a2)]; omega) (by rw [show (a2 : Int32).toInt = a2.toInt from (ti_rfl a2)]; omega) (by rw [show (a2 : Int32).toInt = a2.toInt from (ti_rfl a2), q5]; rfl) (by decide) dX8_ended_17 ?_
        refine go_aload_n (pc := 60) rfl dX8_ended_60 ?_
        refine gi_get (pc := 61) (lo := -2147483648) (hi := 2147483647) hv fL_X8_459 rfl (Nat.le_of_ble_eq_true rfl) rfl rfl dX8_ended_61 (fun v6 v6l v6u v6w => ?_)
        exact gi_iret (pc := 64) (ti_rfl v6) ⟨_, rfl, (ti_lo _), (ti_hi _), rfl⟩ hv dX8_ended_64
      by_cases q7 : a2.toInt = 1
      ·
        refine go_tableIn (pc := 17) (tgt := 65) (off := 48) (by rw [show (a2 : Int32).toInt = a2.toInt from (ti_rfl a2)]; omega) (by rw [show (a2 : Int32).toInt = a2.toInt from (ti_rfl a2)]; omega) (by rw [show (a2 : Int32).toInt = a2.toInt from (ti_rfl a2), q7]; rfl) (by decide) dX8_ended_17 ?_
        refine go_aload_n (pc := 65) rfl dX8_ended_65 ?_
        refine gi_get (pc := 66) (lo := -2147483648) (hi := 2147483647) hv fL_X8_434 rfl (Nat.le_of_ble_eq_true rfl) rfl rfl dX8_ended_66 (fun v8 v8l v8u v8w => ?_)
        exact gi_iret (pc := 69) (ti_rfl v8) ⟨_, rfl, (ti_lo _), (ti_hi _), rfl⟩ hv dX8_ended_69
      by_cases q9 : a2.toInt = 2
      ·
        refine go_tableIn (pc := 17) (tgt := 70) (off := 53) (by rw [show (a2 : Int32).toInt = a2.toInt from (ti_rfl a2)]; omega) (by rw [show (a2 : Int32).toInt = a2.toInt from (ti_rfl a2)]; omega) (by rw [show (a2 : Int32).toInt = a2.toInt from (ti_rfl a2), q9]; rfl) (by decide) dX8_ended_17 ?_
        refine go_aload_n (pc := 70) rfl dX8_ended_70 ?_
        refine gi_get (pc := 71) (lo := 0) (hi := 3000) hv fL_X8_437 rfl (Nat.le_of_ble_eq_true rfl) rfl rfl dX8_ended_71 (fun v10 v10l v10u v10w => ?_)
        exact gi_iret (pc := 74) (ti_rfl v10) ⟨_, rfl, (ti_lo _), (ti_hi _), rfl⟩ hv dX8_ended_74
      by_cases q11 : a2.toInt = 3
      ·
        refine go_tableIn (pc := 17) (tgt := 75) (off := 58) (by rw [show (a2 : Int32).toInt = a2.toInt from (ti_rfl a2)]; omega) (by rw [show (a2 : Int32).toInt = a2.toInt from (ti_rfl a2)]; omega) (by rw [show (a2 : Int32).toInt = a2.toInt from (ti_rfl a2), q11]; rfl) (by decide) dX8_ended_17 ?_
        refine go_aload_n (pc := 75) rfl dX8_ended_75 ?_
        refine gi_getF (pc := 76) (q := 113) hv fL_X8_139 rfl (Nat.le_of_ble_eq_true rfl) rfl (hv.rf (by decide)) dX8_ended_76 ?_
        refine go_iload_n (pc := 79) rfl dX8_ended_79 ?_
        refine go_iconst (pc := 80) (v := 3) (by decide) dX8_ended_80 ?_
        refine gf_isub (pc := 81) (ti_rfl a2) (ti_c (v := 3) (a := 3) (by decide)) (by omega) (by omega) dX8_ended_81 (fun v12 e13 => ?_)
        refine gi_iald (pc := 82) (lo := -2147483648) (hi := 2147483647) (len := 4) hv e13 rfl (by omega) (by omega) (fun _ => rfl) dX8_ended_82 (fun v14 v14l v14u v14w => ?_)
        exact gi_iret (pc := 83) (ti_rfl v14) ⟨_, rfl, (ti_lo _), (ti_hi _), rfl⟩ hv dX8_ended_83
      by_cases q15 : a2.toInt = 4
      ·
        refine go_tableIn (pc := 17) (tgt := 75) (off := 58) (by rw [show (a2 : Int32).toInt = a2.toInt from (ti_rfl a2)]; omega) (by rw [show (a2 : Int32).toInt = a2.toInt from (ti_rfl a2)]; omega) (by rw [show (a2 : Int32).toInt = a2.toInt from (ti_rfl a2), q15]; rfl) (by decide) dX8_ended_17 ?_
        refine go_aload_n (pc := 75) rfl dX8_ended_75 ?_
        refine gi_getF (pc := 76) (q := 113) hv fL_X8_139 rfl (Nat.le_of_ble_eq_true rfl) rfl (hv.rf (by decide)) dX8_ended_76 ?_
        refine go_iload_n (pc := 79) rfl dX8_ended_79 ?_
        refine go_iconst (pc := 80) (v := 3) (by decide) dX8_ended_80 ?_
        refine gf_isub (pc := 81) (ti_rfl a2) (ti_c (v := 3) (a := 3) (by decide)) (by omega) (by omega) dX8_ended_81 (fun v16 e17 => ?_)
        refine gi_iald (pc := 82) (lo := -2147483648) (hi := 2147483647) (len := 4) hv e17 rfl (by omega) (by omega) (fun _ => rfl) dX8_ended_82 (fun v18 v18l v18u v18w => ?_)
        exact gi_iret (pc := 83) (ti_rfl v18) ⟨_, rfl, (ti_lo _), (ti_hi _), rfl⟩ hv dX8_ended_83
      by_cases q19 : a2.toInt = 5
      ·
        refine go_tableIn (pc := 17) (tgt := 75) (off := 58) (by rw [show (a2 : Int32).toInt = a2.toInt from (ti_rfl a2)]; omega) (by rw [show (a2 : Int32).toInt = a2.toInt from (ti_rfl a2)]; omega) (by rw [show (a2 : Int32).toInt = a2.toInt from (ti_rfl a2), q19]; rfl) (by decide) dX8_ended_17 ?_
        refine go_aload_n (pc := 75) rfl dX8_ended_75 ?_
        refine gi_getF (pc := 76) (q := 113) hv fL_X8_139 rfl (Nat.le_of_ble_eq_true rfl) rfl (hv.rf (by decide)) dX8_ended_76 ?_
        refine go_iload_n (pc := 79) rfl dX8_ended_79 ?_
        refine go_iconst (pc := 80) (v := 3) (by decide) dX8_ended_80 ?_
        refine gf_isub (pc := 81) (ti_rfl a2) (ti_c (v := 3) (a := 3) (by decide)) (by omega) (by omega) dX8_ended_81 (fun v20 e21 => ?_)
        refine gi_iald (pc := 82) (lo := -2147483648) (hi := 2147483647) (len := 4) hv e21 rfl (by omega) (by omega) (fun _ => rfl) dX8_ended_82 (fun v22 v22l v22u v22w => ?_)
        exact gi_iret (pc := 83) (ti_rfl v22) ⟨_, rfl, (ti_lo _), (ti_hi _), rfl⟩ hv dX8_ended_83
      by_cases q23 : a2.toInt = 6
      ·
        refine go_tableIn (pc := 17) (tgt := 75) (off := 58) (by rw [show (a2 : Int32).toInt = a2.toInt from (ti_rfl a2)]; omega) (by rw [show (a2 : Int32).toInt = a2.toInt from (ti_rfl a2)]; omega) (by rw [show (a2 : Int32).toInt = a2.toInt from (ti_rfl a2), q23]; rfl) (by decide) dX8_ended_17 ?_
        refine go_aload_n (pc := 75) rfl dX8_ended_75 ?_
        refine gi_getF (pc := 76) (q := 113) hv fL_X8_139 rfl (Nat.le_of_ble_eq_true rfl) rfl (hv.rf (by decide)) dX8_ended_76 ?_
        refine go_iload_n (pc := 79) rfl dX8_ended_79 ?_
        refine go_iconst (pc := 80) (v := 3) (by decide) dX8_ended_80 ?_
        refine gf_isub (pc := 81) (ti_rfl a2) (ti_c (v := 3) (a := 3) (by decide)) (by omega) (by omega) dX8_ended_81 (fun v24 e25 => ?_)
        refine gi_iald (pc := 82) (lo := -2147483648) (hi := 2147483647) (len := 4) hv e25 rfl (by omega) (by omega) (fun _ => rfl) dX8_ended_82 (fun v26 v26l v26u v26w => ?_)
        exact gi_iret (pc := 83) (ti_rfl v26) ⟨_, rfl, (ti_lo _), (ti_hi _), rfl⟩ hv dX8_ended_83
      refine go_tableOut (pc := 17) (tgt := 84) (by rw [show (a2 : Int32).toInt = a2.toInt from (ti_rfl a2)]; omega) (by decide) dX8_ended_17 ?_
      refine go_iconst (pc := 84) (v := (-1)) (by decide) dX8_ended_84 ?_
      exact gi_iret (pc := 85) (ti_c (v := (-1)) (a := (-1)) (by decide)) ⟨_, rfl, (ti_lo _), (ti_hi _), rfl⟩ hv dX8_ended_85
    ·
      exact go_lv rfl ((key 14) ()   (by omega))
set_option maxHeartbeats 4000000 in
set_option maxRecDepth 100000 in
theorem s_X8_saw (l : Launch) (d : Nat) {P : PP} {h : HP} (hv : Iv P h) (a2 : Int32) (a3 : Int32) : Mt l yX8_saw cX8_saw 5 (some .int) (d + 3) [.ref 70, .int a2, .int a3] h 0 0 (fun r h' => ∃ v : Int32, r = some (.int v) ∧ -2147483648 ≤ v.toInt ∧ v.toInt ≤ 2147483647 ∧ h = h') := by
  refine Mt_iv hv (by decide) (Nat.le_of_ble_eq_true rfl) ?_
  show Go l RX8 cX8_saw 5 (g_rm (d + 3) 0 0) "saw" (some .int) 117 0 0 (fun _ _ => True) (fun r h' => ∃ v : Int32, r = some (.int v) ∧ -2147483648 ≤ v.toInt ∧ v.toInt ≤ 2147483647 ∧ h = h') 0 0 [(0, .ref 70), (1, .int a2), (2, .int a3)] [] h
  have key : ∀ n : Nat, (∀ (_ : Unit), (1 : Int) < n → Go l RX8 cX8_saw 5 (g_rm (d + 3) 0 0) "saw" (some .int) 117 0 0 (fun _ _ => True) (fun r h' => ∃ v : Int32, r = some (.int v) ∧ -2147483648 ≤ v.toInt ∧ v.toInt ≤ 2147483647 ∧ h = h') 0 15 [] [] h) ∧ (∀ (l1 : Int32) (l2 : Int32) (l3 : Int32) (l4 : Int32), 0 ≤ l1.toInt → l1.toInt ≤ 39 → 0 ≤ l4.toInt → l4.toInt ≤ 500 → (4 * (500 - l4.toInt) + 5 : Int) < n → Go l RX8 cX8_saw 5 (g_rm (d + 3) 0 0) "saw" (some .int) 117 0 0 (fun _ _ => True) (fun r h' => ∃ v : Int32, r = some (.int v) ∧ -2147483648 ≤ v.toInt ∧ v.toInt ≤ 2147483647 ∧ h = h') 0 22 [(0, .ref 70), (1, .int l1), (2, .int l2), (3, .int l3), (4, .int l4)] [] h) ∧ (∀ (l1 : Int32) (l2 : Int32) (l3 : Int32) (l4 : Int32), 0 ≤ l1.toInt → l1.toInt ≤ 39 → 0 ≤ l4.toInt → l4.toInt ≤ 499 → (4 * (500 - l4.toInt) + 4 : Int) < n → Go l RX8 cX8_saw 5 (g_rm (d + 3) 0 0) "saw" (some .int) 117 0 0 (fun _ _ => True) (fun r h' => ∃ v : Int32, r = some (.int v) ∧ -2147483648 ≤ v.toInt ∧ v.toInt ≤ 2147483647 ∧ h = h') 0 61 [(0, .ref 70), (1, .int l1), (2, .int l2), (3, .int l3), (4, .int l4)] [] h) ∧ (∀ (s0 : Int32), (2 : Int) < n → Go l RX8 cX8_saw 5 (g_rm (d + 3) 0 0) "saw" (some .int) 117 0 0 (fun _ _ => True) (fun r h' => ∃ v : Int32, r = some (.int v) ∧ -2147483648 ≤ v.toInt ∧ v.toInt ≤ 2147483647 ∧ h = h') 0 77 [] [.int s0] h) := by
    intro n
    induction n with
    | zero => exact ⟨(by intros; omega), (by intros; omega), (by intros; omega), (by intros; omega)⟩
    | succ n ih =>
      refine ⟨?_, ?_, ?_, ?_⟩
      ·
        intro _ hm
        refine go_iconst (pc := 15) (v := 0) (by decide) dX8_saw_15 ?_
        exact gi_iret (pc := 16) (ti_c (v := 0) (a := 0) (by decide)) ⟨_, rfl, (ti_lo _), (ti_hi _), rfl⟩ hv dX8_saw_16
      ·
        intro l1 l2 l3 l4 l1l l1u l4l l4u hm
        refine go_iload (pc := 22) rfl dX8_saw_22 ?_
        refine go_aload_n (pc := 24) rfl dX8_saw_24 ?_
        refine gi_get (pc := 25) (lo := 0) (hi := 500) hv fL_X8_418 rfl (Nat.le_of_ble_eq_true rfl) rfl rfl dX8_saw_25 (fun v1 v1l v1u v1w => ?_)
        refine gf_icmp_ge (pc := 28) (tgt := 67) (ti_rfl l4) (ti_rfl v1) (by decide) dX8_saw_28 (fun q2 => ?_) (fun q2 => ?_)
        ·
          refine go_iload_n (pc := 67) rfl dX8_saw_67 ?_
          refine go_iconst (pc := 68) (v := (-1)) (by decide) dX8_saw_68 ?_
          refine gf_icmp_ne (pc := 69) (tgt := 76) (ti_rfl l2) (ti_c (v := (-1)) (a := (-1)) (by decide)) (by decide) dX8_saw_69 (fun q3 => ?_) (fun q3 => ?_)
          ·
            refine go_iconst (pc := 76) (v := 0) (by decide) dX8_saw_76 ?_
            have z4 : (0 : Int32).toInt = 0 := (ti_c (v := 0) (a := 0) (by decide))
            exact go_lv rfl (ih.2.2.2 0   (by omega))
          ·
            refine go_iload_n (pc := 72) rfl dX8_saw_72 ?_
            refine go_goto (pc := 73) (tgt := 77) (by decide) dX8_saw_73 ?_
            exact go_lv rfl (ih.2.2.2 l3   (by omega))
        ·
          refine go_aload_n (pc := 31) rfl dX8_saw_31 ?_
          refine gi_getF (pc := 32) (q := 115) hv fL_X8_145 rfl (Nat.le_of_ble_eq_true rfl) rfl (hv.rf (by decide)) dX8_saw_32 ?_
          refine go_iload (pc := 35) rfl dX8_saw_35 ?_
          refine gi_iald (pc := 37) (lo := -2147483648) (hi := 2147483647) (len := 500) hv (ti_rfl l4) rfl (by omega) (by omega) (fun _ => rfl) dX8_saw_37 (fun v5 v5l v5u v5w => ?_)
          refine go_iload_n (pc := 38) rfl dX8_saw_38 ?_
          refine gf_icmp_eq (pc := 39) (tgt := 45) (ti_rfl v5) (ti_rfl l1) (by decide) dX8_saw_39 (fun q6 => ?_) (fun q6 => ?_)
          ·
            refine go_iload_n (pc := 45) rfl dX8_saw_45 ?_
            refine go_iload_n (pc := 46) rfl dX8_saw_46 ?_
            refine gf_icmp_ne (pc := 47) (tgt := 58) (ti_rfl l3) (ti_rfl l2) (by decide) dX8_saw_47 (fun q7 => ?_) (fun q7 => ?_)
            ·
              refine gu_iinc (pc := 58) (Nat.le_of_ble_eq_true rfl) rfl dX8_saw_58 (fun v8 => ?_)
              refine go_lv (lv2 := [(0, .ref 70), (1, .int l1), (2, .int l2), (3, .int v8), (4, .int l4)]) rfl ?_
              exact go_lv rfl (ih.2.2.1 l1 l2 v8 l4  (by omega) (by omega) (by omega) (by omega) (by omega))
            ·
              refine go_aload_n (pc := 50) rfl dX8_saw_50 ?_
              refine gi_getF (pc := 51) (q := 116) hv fL_X8_148 rfl (Nat.le_of_ble_eq_true rfl) rfl (hv.rf (by decide)) dX8_saw_51 ?_
              refine go_iload (pc := 54) rfl dX8_saw_54 ?_
              refine gi_iald (pc := 56) (lo := -2147483648) (hi := 2147483647) (len := 500) hv (ti_rfl l4) rfl (by omega) (by omega) (fun _ => rfl) dX8_saw_56 (fun v10 v10l v10u v10w => ?_)
              exact gi_iret (pc := 57) (ti_rfl v10) ⟨_, rfl, (ti_lo _), (ti_hi _), rfl⟩ hv dX8_saw_57
          ·
            refine go_goto (pc := 42) (tgt := 61) (by decide) dX8_saw_42 ?_
            exact go_lv rfl (ih.2.2.1 l1 l2 l3 l4  (by omega) (by omega) (by omega) (by omega) (by omega))
      ·
        intro l1 l2 l3 l4 l1l l1u l4l l4u hm
        refine gf_iinc (pc := 61) (Nat.le_of_ble_eq_true rfl) rfl (ti_rfl l4) (ti_c (by decide)) (by omega) (by omega) dX8_saw_61 (fun v11 e12 => ?_)
        refine go_lv (lv2 := [(0, .ref 70), (1, .int l1), (2, .int l2), (3, .int l3), (4, .int v11)]) rfl ?_
        refine go_goto (pc := 64) (tgt := 22) (by decide) dX8_saw_64 ?_
        have z13 : (v11 : Int32).toInt = (l4.toInt + 1) := e12
        exact go_lv rfl (ih.2.1 l1 l2 l3 v11  (by omega) (by omega) (by omega) (by omega) (by omega))
      ·
        intro s0 hm
        exact gi_iret (pc := 77) (ti_rfl s0) ⟨_, rfl, (ti_lo _), (ti_hi _), rfl⟩ hv dX8_saw_77
  refine go_aload_n (pc := 0) rfl dX8_saw_0 ?_
  refine go_iload_n (pc := 1) rfl dX8_saw_1 ?_
  refine go_invV (pc := 2) (sl := 0) (s_X8_isStatement l (d + 0) hv a2) mL_X8_389 iM_X8_isStatement sM_X8_isStatement (hv.sh rfl) rfl rfl rfl (Nat.le_of_ble_eq_true rfl) (show d + 0 + 2 + 1 ≤ d + 3 by omega) (show 8 + (2 + 11) + 40 * (d + 0 + 2) ≤ 40 * (d + 3) by omega) (g_c0 hv.ln) (Nat.le_of_ble_eq_true rfl) dX8_saw_2 ?_
  intro r h14 hq _
  obtain ⟨v15, rfl, v15l, v15u, rfl, f16⟩ := hq
  refine gf_if_eq (pc := 5) (tgt := 15) (ti_rfl v15) (by decide) dX8_saw_5 (fun q17 => ?_) (fun q17 => ?_)
  ·
    exact go_lv rfl ((key 2023).1 ()   (by omega))
  ·
    refine go_aload_n (pc := 8) rfl dX8_saw_8 ?_
    refine gi_get (pc := 9) (lo := 0) (hi := 1) hv fL_X8_247 rfl (Nat.le_of_ble_eq_true rfl) rfl rfl dX8_saw_9 (fun v18 v18l v18u v18w => ?_)
    refine gf_if_ne (pc := 12) (tgt := 17) (ti_rfl v18) (by decide) dX8_saw_12 (fun q19 => ?_) (fun q19 => ?_)
    ·
      refine go_iconst (pc := 17) (v := 0) (by decide) dX8_saw_17 ?_
      refine go_istore_n (pc := 18) (Nat.le_of_ble_eq_true rfl) dX8_saw_18 (go_lv (lv2 := [(0, .ref 70), (1, .int a2), (2, .int a3), (3, .int 0)]) rfl ?_)
      refine go_iconst (pc := 19) (v := 0) (by decide) dX8_saw_19 ?_
      refine go_istore (pc := 20) (Nat.le_of_ble_eq_true rfl) dX8_saw_20 (go_lv (lv2 := [(0, .ref 70), (1, .int a2), (2, .int a3), (3, .int 0), (4, .int 0)]) rfl ?_)
      have z20 : (0 : Int32).toInt = 0 := (ti_c (v := 0) (a := 0) (by decide))
      have z21 : (0 : Int32).toInt = 0 := (ti_c (v := 0) (a := 0) (by decide))
      exact go_lv rfl ((key 2023).2.1 a2 a3 0 0  (by omega) (by omega) (by omega) (by omega) (by omega))
    ·
      exact go_lv rfl ((key 2023).1 ()   (by omega))

