/-! the live program, and what the side at hand is -/
def LV (F : FN) : Prop := (F 70 30).toInt = 1 → RD F (F 70 29).toInt ∧ TD F (F 70 29).toInt ∧ 1 ≤ V F 76 (F 70 29).toInt
theorem VE.ofgs {P : PP} {h g : HP} (a : Iv P h) (b : Iv (gs P) g) : VE h.2.1 g.2.1 := fun c j h1 h2 => by
  rw [a.fz h1 h2, b.fz h1 h2]
  show (if c = 70 ∧ j = 6 then P.2.2.2.2 70 29 else P.2.2.2.2 c j) = _
  rw [if_neg (by omega)]
theorem gs6 {P : PP} {h g : HP} (a : Iv P h) (b : Iv (gs P) g) : g.2.1 70 6 = h.2.1 70 29 := by
  rw [a.fy (j := 29) (by omega), b.fy (j := 6) (by omega)]
  show (if 70 = 70 ∧ 6 = 6 then P.2.2.2.2 70 29 else P.2.2.2.2 70 6) = _
  rw [if_pos ⟨rfl, rfl⟩]
theorem gs29 {P : PP} {h g : HP} (a : Iv P h) (b : Iv (gs P) g) : g.2.1 70 29 = h.2.1 70 29 := by
  rw [a.fy (j := 29) (by omega), b.fy (j := 29) (by omega)]
  show (if 70 = 70 ∧ 29 = 6 then P.2.2.2.2 70 29 else P.2.2.2.2 70 29) = _
  rw [if_neg (by omega)]
theorem gs30 {P : PP} {h g : HP} (a : Iv P h) (b : Iv (gs P) g) : g.2.1 70 30 = h.2.1 70 30 := by
  rw [a.fy (j := 30) (by omega), b.fy (j := 30) (by omega)]
  show (if 70 = 70 ∧ 30 = 6 then P.2.2.2.2 70 29 else P.2.2.2.2 70 30) = _
  rw [if_neg (by omega)]
theorem gs6b {P : PP} {h g : HP} (a : Iv P h) (b : Iv (gs P) g) : g.2.1 70 6 = g.2.1 70 29 := (gs6 a b).trans (gs29 a b).symm
theorem LV.cong {F G : FN} (e : VE F G) (h29 : G 70 29 = F 70 29) (h30 : G 70 30 = F 70 30) (l : LV F) : LV G := fun q => by
  rw [h30] at q
  have w := l q
  rw [h29, e.v (by omega) (by omega)]
  exact ⟨w.1.ve e, w.2.1.kx (KX.ve (m := 102) (by omega) e) (by omega), w.2.2⟩
theorem LV.ofgs {P : PP} {h g : HP} (a : Iv P h) (b : Iv (gs P) g) (l : LV h.2.1) : LV g.2.1 := LV.cong (VE.ofgs a b) (gs29 a b) (gs30 a b) l
/-- the set is joined to what is kept -/
def JN (F G : FN) : Prop := (∀ x : Int, 0 ≤ x → x < 608 → (sb G 112 x ↔ sb F 112 x ∨ sb F 109 x)) ∧ ∀ c j : Nat, c ≠ 112 → G c j = F c j
theorem JN.mk {F G : FN} (h : ∀ j : Nat, (j : Int) < 19 → G 112 j = F 112 j ||| F 109 j) (e : ∀ c j : Nat, c ≠ 112 → G c j = F c j) : JN F G := by
  refine ⟨fun x a b => ?_, e⟩
  rw [sb_iff a, sb_iff a, sb_iff a, h _ (by omega), Int32.toBitVec_or, BitVec.getLsbD_or, Bool.or_eq_true]
theorem kept_step {A B C D E : FN} {x : Int} (h0 : 0 ≤ x) (h1 : x < 585) (k : KS A B) (r : RC B C x) (s : SU 109 C D) (k2 : KS C D) (j : JN D E) (n : ¬ sb A 112 x) : ct A 112 + 1 ≤ ct E 112 := by
  have e : ∀ q, D 112 q = A 112 q := fun q => by
    rw [k2 112 q (by omega) (by omega) (by omega), r.2.2 112 q (by omega) (by omega) (by omega), k 112 q (by omega) (by omega) (by omega)]
  refine ct_slt (fun y a b q => ?_) h0 h1 n ?_
  · exact (j.1 y a b).mpr (Or.inl ((sb_congr e y).mpr q))
  · exact (j.1 x h0 (by omega)).mpr (Or.inr (s x h0 (by omega) ((r.1 x h0 (by omega)).mpr (Or.inr rfl))))
theorem dX8_backOf_0 : decode cX8_backOf 0 = .ok (.aload_n 0, 1) := by decide +kernel
theorem dX8_backOf_1 : decode cX8_backOf 1 = .ok (.aload_n 0, 1) := by decide +kernel
theorem dX8_backOf_2 : decode cX8_backOf 2 = .ok (.getfield 228, 3) := by decide +kernel
theorem dX8_backOf_5 : decode cX8_backOf 5 = .ok (.putfield 187, 3) := by decide +kernel
theorem dX8_backOf_8 : decode cX8_backOf 8 = .ok (.aload_n 0, 1) := by decide +kernel
theorem dX8_backOf_9 : decode cX8_backOf 9 = .ok (.iload_n 1, 1) := by decide +kernel
theorem dX8_backOf_10 : decode cX8_backOf 10 = .ok (.invokevirtual 395, 3) := by decide +kernel
theorem dX8_backOf_13 : decode cX8_backOf 13 = .ok (.ifCond .eq 12, 3) := by decide +kernel
theorem dX8_backOf_16 : decode cX8_backOf 16 = .ok (.iload_n 2, 1) := by decide +kernel
theorem dX8_backOf_17 : decode cX8_backOf 17 = .ok (.iconst 0, 1) := by decide +kernel
theorem dX8_backOf_18 : decode cX8_backOf 18 = .ok (.iconst 5, 1) := by decide +kernel
theorem dX8_backOf_19 : decode cX8_backOf 19 = .ok (.invokestatic 159, 3) := by decide +kernel
theorem dX8_backOf_22 : decode cX8_backOf 22 = .ok (.ifCond .ne 7, 3) := by decide +kernel
theorem dX8_backOf_25 : decode cX8_backOf 25 = .ok (.ldc2_w 329, 3) := by decide +kernel
theorem dX8_backOf_28 : decode cX8_backOf 28 = .ok (.lreturn, 1) := by decide +kernel
theorem dX8_backOf_29 : decode cX8_backOf 29 = .ok (.aload_n 0, 1) := by decide +kernel
theorem dX8_backOf_30 : decode cX8_backOf 30 = .ok (.invokevirtual 356, 3) := by decide +kernel
theorem dX8_backOf_33 : decode cX8_backOf 33 = .ok (.aload_n 0, 1) := by decide +kernel
theorem dX8_backOf_34 : decode cX8_backOf 34 = .ok (.iload_n 1, 1) := by decide +kernel
theorem dX8_backOf_35 : decode cX8_backOf 35 = .ok (.bipush 7, 2) := by decide +kernel
theorem dX8_backOf_37 : decode cX8_backOf 37 = .ok (.iload_n 2, 1) := by decide +kernel
theorem dX8_backOf_38 : decode cX8_backOf 38 = .ok (.iadd, 1) := by decide +kernel
theorem dX8_backOf_39 : decode cX8_backOf 39 = .ok (.invokestatic 300, 3) := by decide +kernel
theorem dX8_backOf_42 : decode cX8_backOf 42 = .ok (.invokevirtual 347, 3) := by decide +kernel
theorem dX8_backOf_45 : decode cX8_backOf 45 = .ok (.aload_n 0, 1) := by decide +kernel
theorem dX8_backOf_46 : decode cX8_backOf 46 = .ok (.invokevirtual 375, 3) := by decide +kernel
theorem dX8_backOf_49 : decode cX8_backOf 49 = .ok (.aload_n 0, 1) := by decide +kernel
theorem dX8_backOf_50 : decode cX8_backOf 50 = .ok (.invokevirtual 378, 3) := by decide +kernel
theorem dX8_backOf_53 : decode cX8_backOf 53 = .ok (.lreturn, 1) := by decide +kernel
theorem dX8_kept_0 : decode cX8_kept 0 = .ok (.aload_n 0, 1) := by decide +kernel
theorem dX8_kept_1 : decode cX8_kept 1 = .ok (.iload_n 1, 1) := by decide +kernel
theorem dX8_kept_2 : decode cX8_kept 2 = .ok (.invokevirtual 389, 3) := by decide +kernel
theorem dX8_kept_5 : decode cX8_kept 5 = .ok (.ifCond .eq 11, 3) := by decide +kernel
theorem dX8_kept_8 : decode cX8_kept 8 = .ok (.aload_n 0, 1) := by decide +kernel
theorem dX8_kept_9 : decode cX8_kept 9 = .ok (.iload_n 1, 1) := by decide +kernel
theorem dX8_kept_10 : decode cX8_kept 10 = .ok (.invokevirtual 413, 3) := by decide +kernel
theorem dX8_kept_13 : decode cX8_kept 13 = .ok (.goto 6, 3) := by decide +kernel
theorem dX8_kept_16 : decode cX8_kept 16 = .ok (.ldc2_w 329, 3) := by decide +kernel
theorem dX8_kept_19 : decode cX8_kept 19 = .ok (.lreturn, 1) := by decide +kernel
theorem dX8_keptFor_0 : decode cX8_keptFor 0 = .ok (.aload_n 0, 1) := by decide +kernel
theorem dX8_keptFor_1 : decode cX8_keptFor 1 = .ok (.aload_n 0, 1) := by decide +kernel
theorem dX8_keptFor_2 : decode cX8_keptFor 2 = .ok (.getfield 228, 3) := by decide +kernel
theorem dX8_keptFor_5 : decode cX8_keptFor 5 = .ok (.putfield 187, 3) := by decide +kernel
theorem dX8_keptFor_8 : decode cX8_keptFor 8 = .ok (.iconst 0, 1) := by decide +kernel
theorem dX8_keptFor_9 : decode cX8_keptFor 9 = .ok (.istore_n 2, 1) := by decide +kernel
theorem dX8_keptFor_10 : decode cX8_keptFor 10 = .ok (.iload_n 2, 1) := by decide +kernel
theorem dX8_keptFor_11 : decode cX8_keptFor 11 = .ok (.bipush 19, 2) := by decide +kernel
theorem dX8_keptFor_13 : decode cX8_keptFor 13 = .ok (.if_icmp .ge 16, 3) := by decide +kernel
theorem dX8_keptFor_16 : decode cX8_keptFor 16 = .ok (.aload_n 0, 1) := by decide +kernel
theorem dX8_keptFor_17 : decode cX8_keptFor 17 = .ok (.getfield 136, 3) := by decide +kernel
theorem dX8_keptFor_20 : decode cX8_keptFor 20 = .ok (.iload_n 2, 1) := by decide +kernel
theorem dX8_keptFor_21 : decode cX8_keptFor 21 = .ok (.iconst 0, 1) := by decide +kernel
theorem dX8_keptFor_22 : decode cX8_keptFor 22 = .ok (.iastore, 1) := by decide +kernel
theorem dX8_keptFor_23 : decode cX8_keptFor 23 = .ok (.iinc 2 1, 3) := by decide +kernel
theorem dX8_keptFor_26 : decode cX8_keptFor 26 = .ok (.goto (-16), 3) := by decide +kernel
theorem dX8_keptFor_29 : decode cX8_keptFor 29 = .ok (.aload_n 0, 1) := by decide +kernel
theorem dX8_keptFor_30 : decode cX8_keptFor 30 = .ok (.invokevirtual 356, 3) := by decide +kernel
theorem dX8_keptFor_33 : decode cX8_keptFor 33 = .ok (.aload_n 0, 1) := by decide +kernel
theorem dX8_keptFor_34 : decode cX8_keptFor 34 = .ok (.iload_n 1, 1) := by decide +kernel
theorem dX8_keptFor_35 : decode cX8_keptFor 35 = .ok (.invokevirtual 372, 3) := by decide +kernel
theorem dX8_keptFor_38 : decode cX8_keptFor 38 = .ok (.aload_n 0, 1) := by decide +kernel
theorem dX8_keptFor_39 : decode cX8_keptFor 39 = .ok (.invokevirtual 375, 3) := by decide +kernel
theorem dX8_keptFor_42 : decode cX8_keptFor 42 = .ok (.aload_n 0, 1) := by decide +kernel
theorem dX8_keptFor_43 : decode cX8_keptFor 43 = .ok (.invokevirtual 407, 3) := by decide +kernel
theorem dX8_keptFor_46 : decode cX8_keptFor 46 = .ok (.iconst 1, 1) := by decide +kernel
theorem dX8_keptFor_47 : decode cX8_keptFor 47 = .ok (.istore_n 2, 1) := by decide +kernel
theorem dX8_keptFor_48 : decode cX8_keptFor 48 = .ok (.iload_n 2, 1) := by decide +kernel
theorem dX8_keptFor_49 : decode cX8_keptFor 49 = .ok (.ifCond .eq 83, 3) := by decide +kernel
theorem dX8_keptFor_52 : decode cX8_keptFor 52 = .ok (.iconst 0, 1) := by decide +kernel
theorem dX8_keptFor_53 : decode cX8_keptFor 53 = .ok (.istore_n 2, 1) := by decide +kernel
theorem dX8_keptFor_54 : decode cX8_keptFor 54 = .ok (.iconst 0, 1) := by decide +kernel
theorem dX8_keptFor_55 : decode cX8_keptFor 55 = .ok (.istore_n 3, 1) := by decide +kernel
theorem dX8_keptFor_56 : decode cX8_keptFor 56 = .ok (.iload_n 3, 1) := by decide +kernel
theorem dX8_keptFor_57 : decode cX8_keptFor 57 = .ok (.bipush 6, 2) := by decide +kernel
theorem dX8_keptFor_59 : decode cX8_keptFor 59 = .ok (.aload_n 0, 1) := by decide +kernel
theorem dX8_keptFor_60 : decode cX8_keptFor 60 = .ok (.getfield 23, 3) := by decide +kernel
theorem dX8_keptFor_63 : decode cX8_keptFor 63 = .ok (.aload_n 0, 1) := by decide +kernel
theorem dX8_keptFor_64 : decode cX8_keptFor 64 = .ok (.getfield 228, 3) := by decide +kernel
theorem dX8_keptFor_67 : decode cX8_keptFor 67 = .ok (.iaload, 1) := by decide +kernel
theorem dX8_keptFor_68 : decode cX8_keptFor 68 = .ok (.imul, 1) := by decide +kernel
theorem dX8_keptFor_69 : decode cX8_keptFor 69 = .ok (.if_icmp .ge 60, 3) := by decide +kernel
theorem dX8_keptFor_72 : decode cX8_keptFor 72 = .ok (.aload_n 0, 1) := by decide +kernel
theorem dX8_keptFor_73 : decode cX8_keptFor 73 = .ok (.iload_n 3, 1) := by decide +kernel
theorem dX8_keptFor_74 : decode cX8_keptFor 74 = .ok (.bipush 6, 2) := by decide +kernel
theorem dX8_keptFor_76 : decode cX8_keptFor 76 = .ok (.idiv, 1) := by decide +kernel
theorem dX8_keptFor_77 : decode cX8_keptFor 77 = .ok (.iconst 1, 1) := by decide +kernel
theorem dX8_keptFor_78 : decode cX8_keptFor 78 = .ok (.iload_n 3, 1) := by decide +kernel
theorem dX8_keptFor_79 : decode cX8_keptFor 79 = .ok (.bipush 6, 2) := by decide +kernel
theorem dX8_keptFor_81 : decode cX8_keptFor 81 = .ok (.irem, 1) := by decide +kernel
theorem dX8_keptFor_82 : decode cX8_keptFor 82 = .ok (.iadd, 1) := by decide +kernel
theorem dX8_keptFor_83 : decode cX8_keptFor 83 = .ok (.invokevirtual 410, 3) := by decide +kernel
theorem dX8_keptFor_86 : decode cX8_keptFor 86 = .ok (.ifCond .ne 6, 3) := by decide +kernel
theorem dX8_keptFor_89 : decode cX8_keptFor 89 = .ok (.goto 34, 3) := by decide +kernel
theorem dX8_keptFor_92 : decode cX8_keptFor 92 = .ok (.aload_n 0, 1) := by decide +kernel
theorem dX8_keptFor_93 : decode cX8_keptFor 93 = .ok (.invokevirtual 356, 3) := by decide +kernel
theorem dX8_keptFor_96 : decode cX8_keptFor 96 = .ok (.aload_n 0, 1) := by decide +kernel
theorem dX8_keptFor_97 : decode cX8_keptFor 97 = .ok (.iload_n 3, 1) := by decide +kernel
theorem dX8_keptFor_98 : decode cX8_keptFor 98 = .ok (.bipush 6, 2) := by decide +kernel
theorem dX8_keptFor_100 : decode cX8_keptFor 100 = .ok (.idiv, 1) := by decide +kernel
theorem dX8_keptFor_101 : decode cX8_keptFor 101 = .ok (.iconst 1, 1) := by decide +kernel
theorem dX8_keptFor_102 : decode cX8_keptFor 102 = .ok (.iload_n 3, 1) := by decide +kernel
theorem dX8_keptFor_103 : decode cX8_keptFor 103 = .ok (.bipush 6, 2) := by decide +kernel
theorem dX8_keptFor_105 : decode cX8_keptFor 105 = .ok (.irem, 1) := by decide +kernel
theorem dX8_keptFor_106 : decode cX8_keptFor 106 = .ok (.iadd, 1) := by decide +kernel
theorem dX8_keptFor_107 : decode cX8_keptFor 107 = .ok (.invokestatic 291, 3) := by decide +kernel
theorem dX8_keptFor_110 : decode cX8_keptFor 110 = .ok (.invokevirtual 347, 3) := by decide +kernel
theorem dX8_keptFor_113 : decode cX8_keptFor 113 = .ok (.aload_n 0, 1) := by decide +kernel
theorem dX8_keptFor_114 : decode cX8_keptFor 114 = .ok (.invokevirtual 375, 3) := by decide +kernel
theorem dX8_keptFor_117 : decode cX8_keptFor 117 = .ok (.aload_n 0, 1) := by decide +kernel
theorem dX8_keptFor_118 : decode cX8_keptFor 118 = .ok (.invokevirtual 407, 3) := by decide +kernel
theorem dX8_keptFor_121 : decode cX8_keptFor 121 = .ok (.iconst 1, 1) := by decide +kernel
theorem dX8_keptFor_122 : decode cX8_keptFor 122 = .ok (.istore_n 2, 1) := by decide +kernel
theorem dX8_keptFor_123 : decode cX8_keptFor 123 = .ok (.iinc 3 1, 3) := by decide +kernel
theorem dX8_keptFor_126 : decode cX8_keptFor 126 = .ok (.goto (-70), 3) := by decide +kernel
theorem dX8_keptFor_129 : decode cX8_keptFor 129 = .ok (.goto (-81), 3) := by decide +kernel
theorem dX8_keptFor_132 : decode cX8_keptFor 132 = .ok (.lconst 0, 1) := by decide +kernel
theorem dX8_keptFor_133 : decode cX8_keptFor 133 = .ok (.lstore_n 3, 1) := by decide +kernel
theorem dX8_keptFor_134 : decode cX8_keptFor 134 = .ok (.iconst 0, 1) := by decide +kernel
theorem dX8_keptFor_135 : decode cX8_keptFor 135 = .ok (.istore 5, 2) := by decide +kernel
theorem dX8_keptFor_137 : decode cX8_keptFor 137 = .ok (.iload 5, 2) := by decide +kernel
theorem dX8_keptFor_139 : decode cX8_keptFor 139 = .ok (.aload_n 0, 1) := by decide +kernel
theorem dX8_keptFor_140 : decode cX8_keptFor 140 = .ok (.getfield 23, 3) := by decide +kernel
theorem dX8_keptFor_143 : decode cX8_keptFor 143 = .ok (.aload_n 0, 1) := by decide +kernel
theorem dX8_keptFor_144 : decode cX8_keptFor 144 = .ok (.getfield 228, 3) := by decide +kernel
theorem dX8_keptFor_147 : decode cX8_keptFor 147 = .ok (.iaload, 1) := by decide +kernel
theorem dX8_keptFor_148 : decode cX8_keptFor 148 = .ok (.if_icmp .ge 25, 3) := by decide +kernel
theorem dX8_keptFor_151 : decode cX8_keptFor 151 = .ok (.aload_n 0, 1) := by decide +kernel
theorem dX8_keptFor_152 : decode cX8_keptFor 152 = .ok (.iload 5, 2) := by decide +kernel
theorem dX8_keptFor_154 : decode cX8_keptFor 154 = .ok (.invokevirtual 404, 3) := by decide +kernel
theorem dX8_keptFor_157 : decode cX8_keptFor 157 = .ok (.ifCond .eq 10, 3) := by decide +kernel
theorem dX8_keptFor_160 : decode cX8_keptFor 160 = .ok (.lload_n 3, 1) := by decide +kernel
theorem dX8_keptFor_161 : decode cX8_keptFor 161 = .ok (.lconst 1, 1) := by decide +kernel
theorem dX8_keptFor_162 : decode cX8_keptFor 162 = .ok (.iload 5, 2) := by decide +kernel
theorem dX8_keptFor_164 : decode cX8_keptFor 164 = .ok (.lshl, 1) := by decide +kernel
theorem dX8_keptFor_165 : decode cX8_keptFor 165 = .ok (.lor, 1) := by decide +kernel
theorem dX8_keptFor_166 : decode cX8_keptFor 166 = .ok (.lstore_n 3, 1) := by decide +kernel
theorem dX8_keptFor_167 : decode cX8_keptFor 167 = .ok (.iinc 5 1, 3) := by decide +kernel
theorem dX8_keptFor_170 : decode cX8_keptFor 170 = .ok (.goto (-33), 3) := by decide +kernel
theorem dX8_keptFor_173 : decode cX8_keptFor 173 = .ok (.lload_n 3, 1) := by decide +kernel
theorem dX8_keptFor_174 : decode cX8_keptFor 174 = .ok (.lreturn, 1) := by decide +kernel
theorem dX8_of_0 : decode cX8_of 0 = .ok (.aload_n 0, 1) := by decide +kernel
theorem dX8_of_1 : decode cX8_of 1 = .ok (.aload_n 0, 1) := by decide +kernel
theorem dX8_of_2 : decode cX8_of 2 = .ok (.getfield 228, 3) := by decide +kernel
theorem dX8_of_5 : decode cX8_of 5 = .ok (.putfield 187, 3) := by decide +kernel
theorem dX8_of_8 : decode cX8_of 8 = .ok (.aload_n 0, 1) := by decide +kernel
theorem dX8_of_9 : decode cX8_of 9 = .ok (.iload_n 1, 1) := by decide +kernel
theorem dX8_of_10 : decode cX8_of 10 = .ok (.invokevirtual 389, 3) := by decide +kernel
theorem dX8_of_13 : decode cX8_of 13 = .ok (.ifCond .ne 5, 3) := by decide +kernel
theorem dX8_of_16 : decode cX8_of 16 = .ok (.iconst (-1), 1) := by decide +kernel
theorem dX8_of_17 : decode cX8_of 17 = .ok (.ireturn, 1) := by decide +kernel
theorem dX8_of_18 : decode cX8_of 18 = .ok (.aload_n 0, 1) := by decide +kernel
theorem dX8_of_19 : decode cX8_of 19 = .ok (.iload_n 1, 1) := by decide +kernel
theorem dX8_of_20 : decode cX8_of 20 = .ok (.invokevirtual 268, 3) := by decide +kernel
theorem dX8_of_23 : decode cX8_of 23 = .ok (.istore_n 3, 1) := by decide +kernel
theorem dX8_of_24 : decode cX8_of 24 = .ok (.iload_n 2, 1) := by decide +kernel
theorem dX8_of_25 : decode cX8_of 25 = .ok (.tableswitch 113 0 6 #[43, 50, 57, 64, 86, 93, 99], 43) := by decide +kernel
theorem dX8_of_68 : decode cX8_of 68 = .ok (.aload_n 0, 1) := by decide +kernel
theorem dX8_of_69 : decode cX8_of 69 = .ok (.getfield 29, 3) := by decide +kernel
theorem dX8_of_72 : decode cX8_of 72 = .ok (.iload_n 3, 1) := by decide +kernel
theorem dX8_of_73 : decode cX8_of 73 = .ok (.iaload, 1) := by decide +kernel
theorem dX8_of_74 : decode cX8_of 74 = .ok (.ireturn, 1) := by decide +kernel
theorem dX8_of_75 : decode cX8_of 75 = .ok (.aload_n 0, 1) := by decide +kernel
theorem dX8_of_76 : decode cX8_of 76 = .ok (.getfield 35, 3) := by decide +kernel
theorem dX8_of_79 : decode cX8_of 79 = .ok (.iload_n 3, 1) := by decide +kernel
theorem dX8_of_80 : decode cX8_of 80 = .ok (.iaload, 1) := by decide +kernel
theorem dX8_of_81 : decode cX8_of 81 = .ok (.ireturn, 1) := by decide +kernel
theorem dX8_of_82 : decode cX8_of 82 = .ok (.aload_n 0, 1) := by decide +kernel
theorem dX8_of_83 : decode cX8_of 83 = .ok (.getfield 38, 3) := by decide +kernel
theorem dX8_of_86 : decode cX8_of 86 = .ok (.iload_n 3, 1) := by decide +kernel
theorem dX8_of_87 : decode cX8_of 87 = .ok (.iaload, 1) := by decide +kernel
theorem dX8_of_88 : decode cX8_of 88 = .ok (.ireturn, 1) := by decide +kernel
theorem dX8_of_89 : decode cX8_of 89 = .ok (.aload_n 0, 1) := by decide +kernel
theorem dX8_of_90 : decode cX8_of 90 = .ok (.getfield 29, 3) := by decide +kernel
theorem dX8_of_93 : decode cX8_of 93 = .ok (.iload_n 3, 1) := by decide +kernel
theorem dX8_of_94 : decode cX8_of 94 = .ok (.iaload, 1) := by decide +kernel
theorem dX8_of_95 : decode cX8_of 95 = .ok (.iconst 1, 1) := by decide +kernel
theorem dX8_of_96 : decode cX8_of 96 = .ok (.if_icmp .ne 12, 3) := by decide +kernel
theorem dX8_of_99 : decode cX8_of 99 = .ok (.aload_n 0, 1) := by decide +kernel
theorem dX8_of_100 : decode cX8_of 100 = .ok (.getfield 50, 3) := by decide +kernel
theorem dX8_of_103 : decode cX8_of 103 = .ok (.iload_n 3, 1) := by decide +kernel
theorem dX8_of_104 : decode cX8_of 104 = .ok (.iaload, 1) := by decide +kernel
theorem dX8_of_105 : decode cX8_of 105 = .ok (.goto 5, 3) := by decide +kernel
theorem dX8_of_108 : decode cX8_of 108 = .ok (.bipush (-2), 2) := by decide +kernel
theorem dX8_of_110 : decode cX8_of 110 = .ok (.ireturn, 1) := by decide +kernel
theorem dX8_of_111 : decode cX8_of 111 = .ok (.aload_n 0, 1) := by decide +kernel
theorem dX8_of_112 : decode cX8_of 112 = .ok (.getfield 41, 3) := by decide +kernel
theorem dX8_of_115 : decode cX8_of 115 = .ok (.iload_n 3, 1) := by decide +kernel
theorem dX8_of_116 : decode cX8_of 116 = .ok (.iaload, 1) := by decide +kernel
theorem dX8_of_117 : decode cX8_of 117 = .ok (.ireturn, 1) := by decide +kernel
theorem dX8_of_118 : decode cX8_of 118 = .ok (.aload_n 0, 1) := by decide +kernel
theorem dX8_of_119 : decode cX8_of 119 = .ok (.iload_n 1, 1) := by decide +kernel
theorem dX8_of_120 : decode cX8_of 120 = .ok (.invokevirtual 392, 3) := by decide +kernel
theorem dX8_of_123 : decode cX8_of 123 = .ok (.ireturn, 1) := by decide +kernel
theorem dX8_of_124 : decode cX8_of 124 = .ok (.aload_n 0, 1) := by decide +kernel
theorem dX8_of_125 : decode cX8_of 125 = .ok (.iload_n 1, 1) := by decide +kernel
theorem dX8_of_126 : decode cX8_of 126 = .ok (.invokevirtual 338, 3) := by decide +kernel
theorem dX8_of_129 : decode cX8_of 129 = .ok (.ifCond .eq 7, 3) := by decide +kernel
theorem dX8_of_132 : decode cX8_of 132 = .ok (.iconst 1, 1) := by decide +kernel
theorem dX8_of_133 : decode cX8_of 133 = .ok (.goto 4, 3) := by decide +kernel
theorem dX8_of_136 : decode cX8_of 136 = .ok (.iconst 0, 1) := by decide +kernel
theorem dX8_of_137 : decode cX8_of 137 = .ok (.ireturn, 1) := by decide +kernel
theorem dX8_of_138 : decode cX8_of 138 = .ok (.iconst (-1), 1) := by decide +kernel
theorem dX8_of_139 : decode cX8_of 139 = .ok (.ireturn, 1) := by decide +kernel
set_option maxHeartbeats 4000000 in
set_option maxRecDepth 100000 in
theorem s_X8_isWanted_x (l : Launch) (d : Nat) {P : PP} {h : HP} (hv : Iv P h) (a2 : Int32) (a2l : 0 ≤ a2.toInt) (a2u : a2.toInt ≤ 39) (a3 : Int32) (a3l : 1 ≤ a3.toInt) (a3u : a3.toInt ≤ 6) (ckf : CKF h.2.1) : Mt l yX8_isWanted cX8_isWanted 3 (some .boolean) (d + 3) [.ref 70, .int a2, .int a3] h 0 0 (fun r h' => ∃ v : Int32, r = some (.int v) ∧ 0 ≤ v.toInt ∧ v.toInt ≤ 1 ∧ h = h' ∧ (v.toInt = 1 → ¬ sb h.2.1 112 (13 * a2.toInt + a3.toInt))) := by
  refine Mt_iv hv (by decide) (Nat.le_of_ble_eq_true rfl) ?_
  show Go l RX8 cX8_isWanted 3 (g_rm (d + 3) 0 0) "isWanted" (some .boolean) 117 0 0 (fun _ _ => True) (fun r h' => ∃ v : Int32, r = some (.int v) ∧ 0 ≤ v.toInt ∧ v.toInt ≤ 1 ∧ h = h' ∧ (v.toInt = 1 → ¬ sb h.2.1 112 (13 * a2.toInt + a3.toInt))) 0 0 [(0, .ref 70), (1, .int a2), (2, .int a3)] [] h
  have ck : CK P := CK.of hv ckf
  refine go_aload_n (pc := 0) rfl dX8_isWanted_0 ?_
  refine go_iload_n (pc := 1) rfl dX8_isWanted_1 ?_
  refine go_invV (pc := 2) (sl := 0) (s_X8_kindAt l (d + 0) hv a2 (by rw [show (a2 : Int32).toInt = a2.toInt from (ti_rfl a2)]; omega) (by rw [show (a2 : Int32).toInt = a2.toInt from (ti_rfl a2)]; omega)) mL_X8_271 iM_X8_kindAt sM_X8_kindAt (hv.sh rfl) rfl rfl rfl (Nat.le_of_ble_eq_true rfl) (show d + 0 + 2 + 1 ≤ d + 3 by omega) (show 8 + (2 + 11) + 40 * (d + 0 + 2) ≤ 40 * (d + 3) by omega) (g_c0 hv.ln) (Nat.le_of_ble_eq_true rfl) dX8_isWanted_2 ?_
  intro r h1 hq _
  obtain ⟨v3, rfl, v3l, v3u, rfl, f2⟩ := hq
  refine go_iconst (pc := 5) (v := 1) (by decide) dX8_isWanted_5 ?_
  refine gf_icmp_ne (pc := 6) (tgt := 30) (ti_rfl v3) (ti_c (v := 1) (a := 1) (by decide)) (by decide) dX8_isWanted_6 (fun q4 => ?_) (fun q4 => ?_)
  ·
    refine go_iconst (pc := 30) (v := 0) (by decide) dX8_isWanted_30 ?_
    exact gi_zret (pc := 31) (ti_c (v := 0) (a := 0) (by decide)) (by omega) (by omega) ⟨_, rfl, (by rw [show (0 : Int32).toInt = 0 from (ti_c (v := 0) (a := 0) (by decide))]; omega), (by rw [show (0 : Int32).toInt = 0 from (ti_c (v := 0) (a := 0) (by decide))]; omega), rfl, (fun q => absurd q (by decide))⟩ hv dX8_isWanted_31
  ·
    refine go_aload_n (pc := 9) rfl dX8_isWanted_9 ?_
    refine go_aload_n (pc := 10) rfl dX8_isWanted_10 ?_
    refine gi_getF (pc := 11) (q := 84) hv fL_X8_50 rfl (Nat.le_of_ble_eq_true rfl) rfl (hv.rf (by decide)) dX8_isWanted_11 ?_
    refine go_aload_n (pc := 14) rfl dX8_isWanted_14 ?_
    refine go_iload_n (pc := 15) rfl dX8_isWanted_15 ?_
    refine go_invV (pc := 16) (sl := 0) (s_X8_item l (d + 1) hv a2 (by rw [show (a2 : Int32).toInt = a2.toInt from (ti_rfl a2)]; omega) (by rw [show (a2 : Int32).toInt = a2.toInt from (ti_rfl a2)]; omega)) mL_X8_268 iM_X8_item sM_X8_item (hv.sh rfl) rfl rfl rfl (Nat.le_of_ble_eq_true rfl) (show d + 1 + 1 + 1 ≤ d + 3 by omega) (show 8 + (2 + 11) + 40 * (d + 1 + 1) ≤ 40 * (d + 3) by omega) (g_c0 hv.ln) (Nat.le_of_ble_eq_true rfl) dX8_isWanted_16 ?_
    intro r h5 hq _
    obtain ⟨v7, rfl, v7l, v7u, rfl, f6⟩ := hq
    refine gi_iald (pc := 19) (lo := -2) (hi := 4) (len := 260) hv (ti_rfl v7) rfl (by omega) (by omega) (fun _ => rfl) dX8_isWanted_19 (fun v8 v8l v8u v8w => ?_)
    have k9 : 0 ≤ v8.toInt := by
      rw [v8w]
      refine hv.mc ck ?_
      rw [f6]
      have e := f2
      unfold g_kd at e
      omega
    refine go_iload_n (pc := 20) rfl dX8_isWanted_20 ?_
    refine go_invS (pc := 21) (sl := 0) (s_X8_procedurePlace l (d + 1) hv v8 (by rw [show (v8 : Int32).toInt = v8.toInt from (ti_rfl v8)]; omega) (by rw [show (v8 : Int32).toInt = v8.toInt from (ti_rfl v8)]; omega) a3 (by rw [show (a3 : Int32).toInt = a3.toInt from (ti_rfl a3)]; omega) (by rw [show (a3 : Int32).toInt = a3.toInt from (ti_rfl a3)]; omega)) mL_X8_300 iM_X8_procedurePlace rfl rfl (Nat.le_of_ble_eq_true rfl) (show d + 1 + 1 + 1 ≤ d + 3 by omega) (show 8 + (2 + 11) + 40 * (d + 1 + 1) ≤ 40 * (d + 3) by omega) (g_c0 hv.ln) (Nat.le_of_ble_eq_true rfl) dX8_isWanted_21 ?_
    intro r h10 hq _
    obtain ⟨v11, rfl, v11l, v11u, rfl⟩ := hq
    refine go_invV (pc := 24) (sl := 0) (s_X8_isKept_x l (d + 1) hv v11 (by rw [show (v11 : Int32).toInt = v11.toInt from (ti_rfl v11)]; omega) (by rw [show (v11 : Int32).toInt = v11.toInt from (ti_rfl v11)]; omega)) mL_X8_401 iM_X8_isKept sM_X8_isKept (hv.sh rfl) rfl rfl rfl (Nat.le_of_ble_eq_true rfl) (show d + 1 + 1 + 1 ≤ d + 3 by omega) (show 8 + (2 + 11) + 40 * (d + 1 + 1) ≤ 40 * (d + 3) by omega) (g_c0 hv.ln) (Nat.le_of_ble_eq_true rfl) dX8_isWanted_24 ?_
    intro r h12 hq _
    obtain ⟨v14, rfl, v14l, v14u, rfl, f13⟩ := hq
    refine gf_if_ne (pc := 27) (tgt := 32) (ti_rfl v14) (by decide) dX8_isWanted_27 (fun q15 => ?_) (fun q15 => ?_)
    ·
      refine go_aload_n (pc := 32) rfl dX8_isWanted_32 ?_
      refine go_iload_n (pc := 33) rfl dX8_isWanted_33 ?_
      refine go_invV (pc := 34) (sl := 0) (s_X8_isAnyKept l (d + 0) hv a2 (by rw [show (a2 : Int32).toInt = a2.toInt from (ti_rfl a2)]; omega) (by rw [show (a2 : Int32).toInt = a2.toInt from (ti_rfl a2)]; omega)) mL_X8_404 iM_X8_isAnyKept sM_X8_isAnyKept (hv.sh rfl) rfl rfl rfl (Nat.le_of_ble_eq_true rfl) (show d + 0 + 2 + 1 ≤ d + 3 by omega) (show 8 + (3 + 11) + 40 * (d + 0 + 2) ≤ 40 * (d + 3) by omega) (g_c0 hv.ln) (Nat.le_of_ble_eq_true rfl) dX8_isWanted_34 ?_
      intro r h16 hq _
      obtain ⟨v17, rfl, v17l, v17u, rfl⟩ := hq
      refine gf_if_eq (pc := 37) (tgt := 56) (ti_rfl v17) (by decide) dX8_isWanted_37 (fun q18 => ?_) (fun q18 => ?_)
      ·
        refine go_iconst (pc := 56) (v := 0) (by decide) dX8_isWanted_56 ?_
        exact gi_zret (pc := 57) (ti_c (v := 0) (a := 0) (by decide)) (by omega) (by omega) ⟨_, rfl, (by rw [show (0 : Int32).toInt = 0 from (ti_c (v := 0) (a := 0) (by decide))]; omega), (by rw [show (0 : Int32).toInt = 0 from (ti_c (v := 0) (a := 0) (by decide))]; omega), rfl, (fun q => absurd q (by decide))⟩ hv dX8_isWanted_57
      ·
        refine go_aload_n (pc := 40) rfl dX8_isWanted_40 ?_
        refine go_iload_n (pc := 41) rfl dX8_isWanted_41 ?_
        refine go_iload_n (pc := 42) rfl dX8_isWanted_42 ?_
        refine go_invS (pc := 43) (sl := 0) (s_X8_statementPlace_x l (d + 1) hv a2 (by rw [show (a2 : Int32).toInt = a2.toInt from (ti_rfl a2)]; omega) (by rw [show (a2 : Int32).toInt = a2.toInt from (ti_rfl a2)]; omega) a3 (by rw [show (a3 : Int32).toInt = a3.toInt from (ti_rfl a3)]; omega) (by rw [show (a3 : Int32).toInt = a3.toInt from (ti_rfl a3)]; omega)) mL_X8_291 iM_X8_statementPlace rfl rfl (Nat.le_of_ble_eq_true rfl) (show d + 1 + 1 + 1 ≤ d + 3 by omega) (show 8 + (2 + 11) + 40 * (d + 1 + 1) ≤ 40 * (d + 3) by omega) (g_c0 hv.ln) (Nat.le_of_ble_eq_true rfl) dX8_isWanted_43 ?_
        intro r h19 hq _
        obtain ⟨v21, rfl, v21l, v21u, rfl, f20⟩ := hq
        refine go_invV (pc := 46) (sl := 0) (s_X8_isKept_x l (d + 1) hv v21 (by rw [show (v21 : Int32).toInt = v21.toInt from (ti_rfl v21)]; omega) (by rw [show (v21 : Int32).toInt = v21.toInt from (ti_rfl v21)]; omega)) mL_X8_401 iM_X8_isKept sM_X8_isKept (hv.sh rfl) rfl rfl rfl (Nat.le_of_ble_eq_true rfl) (show d + 1 + 1 + 1 ≤ d + 3 by omega) (show 8 + (2 + 11) + 40 * (d + 1 + 1) ≤ 40 * (d + 3) by omega) (g_c0 hv.ln) (Nat.le_of_ble_eq_true rfl) dX8_isWanted_46 ?_
        intro r h22 hq _
        obtain ⟨v24, rfl, v24l, v24u, rfl, f23⟩ := hq
        refine gf_if_ne (pc := 49) (tgt := 56) (ti_rfl v24) (by decide) dX8_isWanted_49 (fun q25 => ?_) (fun q25 => ?_)
        ·
          refine go_iconst (pc := 56) (v := 0) (by decide) dX8_isWanted_56 ?_
          exact gi_zret (pc := 57) (ti_c (v := 0) (a := 0) (by decide)) (by omega) (by omega) ⟨_, rfl, (by rw [show (0 : Int32).toInt = 0 from (ti_c (v := 0) (a := 0) (by decide))]; omega), (by rw [show (0 : Int32).toInt = 0 from (ti_c (v := 0) (a := 0) (by decide))]; omega), rfl, (fun q => absurd q (by decide))⟩ hv dX8_isWanted_57
        ·
          refine go_iconst (pc := 52) (v := 1) (by decide) dX8_isWanted_52 ?_
          refine go_goto (pc := 53) (tgt := 57) (by decide) dX8_isWanted_53 ?_
          exact gi_zret (pc := 57) (ti_c (v := 1) (a := 1) (by decide)) (by omega) (by omega) ⟨_, rfl, (by rw [show (1 : Int32).toInt = 1 from (ti_c (v := 1) (a := 1) (by decide))]; omega), (by rw [show (1 : Int32).toInt = 1 from (ti_c (v := 1) (a := 1) (by decide))]; omega), rfl, (fun _ => by have q := f23.2 (by omega); rw [f20] at q; exact q)⟩ hv dX8_isWanted_57
    ·
      refine go_iconst (pc := 30) (v := 0) (by decide) dX8_isWanted_30 ?_
      exact gi_zret (pc := 31) (ti_c (v := 0) (a := 0) (by decide)) (by omega) (by omega) ⟨_, rfl, (by rw [show (0 : Int32).toInt = 0 from (ti_c (v := 0) (a := 0) (by decide))]; omega), (by rw [show (0 : Int32).toInt = 0 from (ti_c (v := 0) (a := 0) (by decide))]; omega), rfl, (fun q => absurd q (by decide))⟩ hv dX8_isWanted_31
