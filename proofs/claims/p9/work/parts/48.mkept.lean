/-! the live program, and what the side at hand is -/
def LV (F : FN) : Prop := (F 70 30).toInt = 1 → RD F (F 70 29).toInt ∧ TD F (F 70 29).toInt ∧ 1 ≤ V F 76 (F 70 29).toInt
theorem VE.ofgs {P : PP} {h g : HP} (a : Iv P h) (b : Iv (gs P) g) : VE h.2.1 g.2.1 := fun c j h1 h2 => by
  rw [a.fz h1 h2, b.fz h1 h2]
  show (if c = 70 ∧ j = 6 then P.2.2.2.2 70 29 else P.2.2.2.2 c j) = _
  rw [if_neg (by omega)]
theorem gs6 {P : PP} {h g : HP} (a : Iv P h) (b : Iv (gs P) g) : g.2.1 70 6 = h.2.1 70 29 := by
  rw [a.fy (j := 29) (by omega), b.fy (j := 6) (by omega)]
  show (if 70 = 70 ∧ 6 = 6 then P.2.2.2.2 70 29 else P.2.2.2.2 70 6) = _
  rw [if_pos ⟨rfl, rfl⟩]
theorem gs29 {P : PP} {h g : HP} (a : Iv P h) (b : Iv (gs P) g) : g.2.1 70 29 = h.2.1 70 29 := by
  rw [a.fy (j := 29) (by omega), b.fy (j := 29) (by omega)]
  show (if 70 = 70 ∧ 29 = 6 then P.2.2.2.2 70 29 else P.2.2.2.2 70 29) = _
  rw [if_neg (by omega)]
theorem gs30 {P : PP} {h g : HP} (a : Iv P h) (b : Iv (gs P) g) : g.2.1 70 30 = h.2.1 70 30 := by
  rw [a.fy (j := 30) (by omega), b.fy (j := 30) (by omega)]
  show (if 70 = 70 ∧ 30 = 6 then P.2.2.2.2 70 29 else P.2.2.2.2 70 30) = _
  rw [if_neg (by omega)]
theorem gs6b {P : PP} {h g : HP} (a : Iv P h) (b : Iv (gs P) g) : g.2.1 70 6 = g.2.1 70 29 := (gs6 a b).trans (gs29 a b).symm
theorem LV.cong {F G : FN} (e : VE F G) (h29 : G 70 29 = F 70 29) (h30 : G 70 30 = F 70 30) (l : LV F) : LV G := fun q => by
  rw [h30] at q
  have w := l q
  rw [h29, e.v (by omega) (by omega)]
  exact ⟨w.1.ve e, w.2.1.kx (KX.ve (m := 102) (by omega) e) (by omega), w.2.2⟩
theorem LV.ofgs {P : PP} {h g : HP} (a : Iv P h) (b : Iv (gs P) g) (l : LV h.2.1) : LV g.2.1 := LV.cong (VE.ofgs a b) (gs29 a b) (gs30 a b) l
/-- the set is joined to what is kept -/
def JN (F G : FN) : Prop := (∀ x : Int, 0 ≤ x → x < 608 → (sb G 112 x ↔ sb F 112 x ∨ sb F 109 x)) ∧ ∀ c j : Nat, c ≠ 112 → G c j = F c j
theorem JN.mk {F G : FN} (h : ∀ j : Nat, (j : Int) < 19 → G 112 j = F 112 j ||| F 109 j) (e : ∀ c j : Nat, c ≠ 112 → G c j = F c j) : JN F G := by
  refine ⟨fun x a b => ?_, e⟩
  rw [sb_iff a, sb_iff a, sb_iff a, h _ (by omega), Int32.toBitVec_or, BitVec.getLsbD_or, Bool.or_eq_true]
theorem kept_step {A B C D E : FN} {x : Int} (h0 : 0 ≤ x) (h1 : x < 585) (k : KS A B) (r : RC B C x) (s : SU 109 C D) (k2 : KS C D) (j : JN D E) (n : ¬ sb A 112 x) : ct A 112 + 1 ≤ ct E 112 := by
  have e : ∀ q, D 112 q = A 112 q := fun q => by
    rw [k2 112 q (by omega) (by omega) (by omega), r.2.2 112 q (by omega) (by omega) (by omega), k 112 q (by omega) (by omega) (by omega)]
  refine ct_slt (fun y a b q => ?_) h0 h1 n ?_
  · exact (j.1 y a b).mpr (Or.inl ((sb_congr e y).mpr q))
  · exact (j.1 x h0 (by omega)).mpr (Or.inr (s x h0 (by omega) ((r.1 x h0 (by omega)).mpr (Or.inr rfl))))
theorem dX8_backOf_0 : decode cX8_backOf 0 = .ok (.aload_n 0, 1) := by decide +kernel
theorem dX8_backOf_1 : decode cX8_backOf 1 = .ok (.aload_n 0, 1) := by decide +kernel
theorem dX8_backOf_2 : decode cX8_backOf 2 = .ok (.getfield 228, 3) := by decide +kernel
theorem dX8_backOf_5 : decode cX8_backOf 5 = .ok (.putfield 187, 3) := by decide +kernel
theorem dX8_backOf_8 : decode cX8_backOf 8 = .ok (.aload_n 0, 1) := by decide +kernel
theorem dX8_backOf_9 : decode cX8_backOf 9 = .ok (.iload_n 1, 1) := by decide +kernel
theorem dX8_backOf_10 : decode cX8_backOf 10 = .ok (.invokevirtual 395, 3) := by decide +kernel
theorem dX8_backOf_13 : decode cX8_backOf 13 = .ok (.ifCond .eq 12, 3) := by decide +kernel
theorem dX8_backOf_16 : decode cX8_backOf 16 = .ok (.iload_n 2, 1) := by decide +kernel
theorem dX8_backOf_17 : decode cX8_backOf 17 = .ok (.iconst 0, 1) := by decide +kernel
theorem dX8_backOf_18 : decode cX8_backOf 18 = .ok (.iconst 5, 1) := by decide +kernel
theorem dX8_backOf_19 : decode cX8_backOf 19 = .ok (.invokestatic 159, 3) := by decide +kernel
theorem dX8_backOf_22 : decode cX8_backOf 22 = .ok (.ifCond .ne 7, 3) := by decide +kernel
theorem dX8_backOf_25 : decode cX8_backOf 25 = .ok (.ldc2_w 329, 3) := by decide +kernel
theorem dX8_backOf_28 : decode cX8_backOf 28 = .ok (.lreturn, 1) := by decide +kernel
theorem dX8_backOf_29 : decode cX8_backOf 29 = .ok (.aload_n 0, 1) := by decide +kernel
theorem dX8_backOf_30 : decode cX8_backOf 30 = .ok (.invokevirtual 356, 3) := by decide +kernel
theorem dX8_backOf_33 : decode cX8_backOf 33 = .ok (.aload_n 0, 1) := by decide +kernel
theorem dX8_backOf_34 : decode cX8_backOf 34 = .ok (.iload_n 1, 1) := by decide +kernel
theorem dX8_backOf_35 : decode cX8_backOf 35 = .ok (.bipush 7, 2) := by decide +kernel
theorem dX8_backOf_37 : decode cX8_backOf 37 = .ok (.iload_n 2, 1) := by decide +kernel
theorem dX8_backOf_38 : decode cX8_backOf 38 = .ok (.iadd, 1) := by decide +kernel
theorem dX8_backOf_39 : decode cX8_backOf 39 = .ok (.invokestatic 300, 3) := by decide +kernel
theorem dX8_backOf_42 : decode cX8_backOf 42 = .ok (.invokevirtual 347, 3) := by decide +kernel
theorem dX8_backOf_45 : decode cX8_backOf 45 = .ok (.aload_n 0, 1) := by decide +kernel
theorem dX8_backOf_46 : decode cX8_backOf 46 = .ok (.invokevirtual 375, 3) := by decide +kernel
theorem dX8_backOf_49 : decode cX8_backOf 49 = .ok (.aload_n 0, 1) := by decide +kernel
theorem dX8_backOf_50 : decode cX8_backOf 50 = .ok (.invokevirtual 378, 3) := by decide +kernel
theorem dX8_backOf_53 : decode cX8_backOf 53 = .ok (.lreturn, 1) := by decide +kernel
theorem dX8_kept_0 : decode cX8_kept 0 = .ok (.aload_n 0, 1) := by decide +kernel
theorem dX8_kept_1 : decode cX8_kept 1 = .ok (.iload_n 1, 1) := by decide +kernel
theorem dX8_kept_2 : decode cX8_kept 2 = .ok (.invokevirtual 389, 3) := by decide +kernel
theorem dX8_kept_5 : decode cX8_kept 5 = .ok (.ifCond .eq 11, 3) := by decide +kernel
theorem dX8_kept_8 : decode cX8_kept 8 = .ok (.aload_n 0, 1) := by decide +kernel
theorem dX8_kept_9 : decode cX8_kept 9 = .ok (.iload_n 1, 1) := by decide +kernel
theorem dX8_kept_10 : decode cX8_kept 10 = .ok (.invokevirtual 413, 3) := by decide +kernel
theorem dX8_kept_13 : decode cX8_kept 13 = .ok (.goto 6, 3) := by decide +kernel
theorem dX8_kept_16 : decode cX8_kept 16 = .ok (.ldc2_w 329, 3) := by decide +kernel
theorem dX8_kept_19 : decode cX8_kept 19 = .ok (.lreturn, 1) := by decide +kernel
theorem dX8_keptFor_0 : decode cX8_keptFor 0 = .ok (.aload_n 0, 1) := by decide +kernel
theorem dX8_keptFor_1 : decode cX8_keptFor 1 = .ok (.aload_n 0, 1) := by decide +kernel
theorem dX8_keptFor_2 : decode cX8_keptFor 2 = .ok (.getfield 228, 3) := by decide +kernel
theorem dX8_keptFor_5 : decode cX8_keptFor 5 = .ok (.putfield 187, 3) := by decide +kernel
theorem dX8_keptFor_8 : decode cX8_keptFor 8 = .ok (.iconst 0, 1) := by decide +kernel
theorem dX8_keptFor_9 : decode cX8_keptFor 9 = .ok (.istore_n 2, 1) := by decide +kernel
theorem dX8_keptFor_10 : decode cX8_keptFor 10 = .ok (.iload_n 2, 1) := by decide +kernel
theorem dX8_keptFor_11 : decode cX8_keptFor 11 = .ok (.bipush 19, 2) := by decide +kernel
theorem dX8_keptFor_13 : decode cX8_keptFor 13 = .ok (.if_icmp .ge 16, 3) := by decide +kernel
theorem dX8_keptFor_16 : decode cX8_keptFor 16 = .ok (.aload_n 0, 1) := by decide +kernel
theorem dX8_keptFor_17 : decode cX8_keptFor 17 = .ok (.getfield 136, 3) := by decide +kernel
theorem dX8_keptFor_20 : decode cX8_keptFor 20 = .ok (.iload_n 2, 1) := by decide +kernel
theorem dX8_keptFor_21 : decode cX8_keptFor 21 = .ok (.iconst 0, 1) := by decide +kernel
theorem dX8_keptFor_22 : decode cX8_keptFor 22 = .ok (.iastore, 1) := by decide +kernel
theorem dX8_keptFor_23 : decode cX8_keptFor 23 = .ok (.iinc 2 1, 3) := by decide +kernel
theorem dX8_keptFor_26 : decode cX8_keptFor 26 = .ok (.goto (-16), 3) := by decide +kernel
theorem dX8_keptFor_29 : decode cX8_keptFor 29 = .ok (.aload_n 0, 1) := by decide +kernel
theorem dX8_keptFor_30 : decode cX8_keptFor 30 = .ok (.invokevirtual 356, 3) := by decide +kernel
theorem dX8_keptFor_33 : decode cX8_keptFor 33 = .ok (.aload_n 0, 1) := by decide +kernel
theorem dX8_keptFor_34 : decode cX8_keptFor 34 = .ok (.iload_n 1, 1) := by decide +kernel
theorem dX8_keptFor_35 : decode cX8_keptFor 35 = .ok (.invokevirtual 372, 3) := by decide +kernel
theorem dX8_keptFor_38 : decode cX8_keptFor 38 = .ok (.aload_n 0, 1) := by decide +kernel
theorem dX8_keptFor_39 : decode cX8_keptFor 39 = .ok (.invokevirtual 375, 3) := by decide +kernel
theorem dX8_keptFor_42 : decode cX8_keptFor 42 = .ok (.aload_n 0, 1) := by decide +kernel
theorem dX8_keptFor_43 : decode cX8_keptFor 43 = .ok (.invokevirtual 407, 3) := by decide +kernel
theorem dX8_keptFor_46 : decode cX8_keptFor 46 = .ok (.iconst 1, 1) := by decide +kernel
theorem dX8_keptFor_47 : decode cX8_keptFor 47 = .ok (.istore_n 2, 1) := by decide +kernel
theorem dX8_keptFor_48 : decode cX8_keptFor 48 = .ok (.iload_n 2, 1) := by decide +kernel
theorem dX8_keptFor_49 : decode cX8_keptFor 49 = .ok (.ifCond .eq 83, 3) := by decide +kernel
theorem dX8_keptFor_52 : decode cX8_keptFor 52 = .ok (.iconst 0, 1) := by decide +kernel
theorem dX8_keptFor_53 : decode cX8_keptFor 53 = .ok (.istore_n 2, 1) := by decide +kernel
theorem dX8_keptFor_54 : decode cX8_keptFor 54 = .ok (.iconst 0, 1) := by decide +kernel
theorem dX8_keptFor_55 : decode cX8_keptFor 55 = .ok (.istore_n 3, 1) := by decide +kernel
theorem dX8_keptFor_56 : decode cX8_keptFor 56 = .ok (.iload_n 3, 1) := by decide +kernel
theorem dX8_keptFor_57 : decode cX8_keptFor 57 = .ok (.bipush 6, 2) := by decide +kernel
theorem dX8_keptFor_59 : decode cX8_keptFor 59 = .ok (.aload_n 0, 1) := by decide +kernel
theorem dX8_keptFor_60 : decode cX8_keptFor 60 = .ok (.getfield 23, 3) := by decide +kernel
theorem dX8_keptFor_63 : decode cX8_keptFor 63 = .ok (.aload_n 0, 1) := by decide +kernel
theorem dX8_keptFor_64 : decode cX8_keptFor 64 = .ok (.getfield 228, 3) := by decide +kernel
theorem dX8_keptFor_67 : decode cX8_keptFor 67 = .ok (.iaload, 1) := by decide +kernel
theorem dX8_keptFor_68 : decode cX8_keptFor 68 = .ok (.imul, 1) := by decide +kernel
theorem dX8_keptFor_69 : decode cX8_keptFor 69 = .ok (.if_icmp .ge 60, 3) := by decide +kernel
theorem dX8_keptFor_72 : decode cX8_keptFor 72 = .ok (.aload_n 0, 1) := by decide +kernel
theorem dX8_keptFor_73 : decode cX8_keptFor 73 = .ok (.iload_n 3, 1) := by decide +kernel
theorem dX8_keptFor_74 : decode cX8_keptFor 74 = .ok (.bipush 6, 2) := by decide +kernel
theorem dX8_keptFor_76 : decode cX8_keptFor 76 = .ok (.idiv, 1) := by decide +kernel
theorem dX8_keptFor_77 : decode cX8_keptFor 77 = .ok (.iconst 1, 1) := by decide +kernel
theorem dX8_keptFor_78 : decode cX8_keptFor 78 = .ok (.iload_n 3, 1) := by decide +kernel
theorem dX8_keptFor_79 : decode cX8_keptFor 79 = .ok (.bipush 6, 2) := by decide +kernel
theorem dX8_keptFor_81 : decode cX8_keptFor 81 = .ok (.irem, 1) := by decide +kernel
theorem dX8_keptFor_82 : decode cX8_keptFor 82 = .ok (.iadd, 1) := by decide +kernel
theorem dX8_keptFor_83 : decode cX8_keptFor 83 = .ok (.invokevirtual 410, 3) := by decide +kernel
theorem dX8_keptFor_86 : decode cX8_keptFor 86 = .ok (.ifCond .ne 6, 3) := by decide +kernel
theorem dX8_keptFor_89 : decode cX8_keptFor 89 = .ok (.goto 34, 3) := by decide +kernel
theorem dX8_keptFor_92 : decode cX8_keptFor 92 = .ok (.aload_n 0, 1) := by decide +kernel
theorem dX8_keptFor_93 : decode cX8_keptFor 93 = .ok (.invokevirtual 356, 3) := by decide +kernel
theorem dX8_keptFor_96 : decode cX8_keptFor 96 = .ok (.aload_n 0, 1) := by decide +kernel
theorem dX8_keptFor_97 : decode cX8_keptFor 97 = .ok (.iload_n 3, 1) := by decide +kernel
theorem dX8_keptFor_98 : decode cX8_keptFor 98 = .ok (.bipush 6, 2) := by decide +kernel
theorem dX8_keptFor_100 : decode cX8_keptFor 100 = .ok (.idiv, 1) := by decide +kernel
theorem dX8_keptFor_101 : decode cX8_keptFor 101 = .ok (.iconst 1, 1) := by decide +kernel
theorem dX8_keptFor_102 : decode cX8_keptFor 102 = .ok (.iload_n 3, 1) := by decide +kernel
theorem dX8_keptFor_103 : decode cX8_keptFor 103 = .ok (.bipush 6, 2) := by decide +kernel
theorem dX8_keptFor_105 : decode cX8_keptFor 105 = .ok (.irem, 1) := by decide +kernel
theorem dX8_keptFor_106 : decode cX8_keptFor 106 = .ok (.iadd, 1) := by decide +kernel
theorem dX8_keptFor_107 : decode cX8_keptFor 107 = .ok (.invokestatic 291, 3) := by decide +kernel
theorem dX8_keptFor_110 : decode cX8_keptFor 110 = .ok (.invokevirtual 347, 3) := by decide +kernel
theorem dX8_keptFor_113 : decode cX8_keptFor 113 = .ok (.aload_n 0, 1) := by decide +kernel
theorem dX8_keptFor_114 : decode cX8_keptFor 114 = .ok (.invokevirtual 375, 3) := by decide +kernel
theorem dX8_keptFor_117 : decode cX8_keptFor 117 = .ok (.aload_n 0, 1) := by decide +kernel
theorem dX8_keptFor_118 : decode cX8_keptFor 118 = .ok (.invokevirtual 407, 3) := by decide +kernel
theorem dX8_keptFor_121 : decode cX8_keptFor 121 = .ok (.iconst 1, 1) := by decide +kernel
theorem dX8_keptFor_122 : decode cX8_keptFor 122 = .ok (.istore_n 2, 1) := by decide +kernel
theorem dX8_keptFor_123 : decode cX8_keptFor 123 = .ok (.iinc 3 1, 3) := by decide +kernel
theorem dX8_keptFor_126 : decode cX8_keptFor 126 = .ok (.goto (-70), 3) := by decide +kernel
theorem dX8_keptFor_129 : decode cX8_keptFor 129 = .ok (.goto (-81), 3) := by decide +kernel
theorem dX8_keptFor_132 : decode cX8_keptFor 132 = .ok (.lconst 0, 1) := by decide +kernel
theorem dX8_keptFor_133 : decode cX8_keptFor 133 = .ok (.lstore_n 3, 1) := by decide +kernel
theorem dX8_keptFor_134 : decode cX8_keptFor 134 = .ok (.iconst 0, 1) := by decide +kernel
theorem dX8_keptFor_135 : decode cX8_keptFor 135 = .ok (.istore 5, 2) := by decide +kernel
theorem dX8_keptFor_137 : decode cX8_keptFor 137 = .ok (.iload 5, 2) := by decide +kernel
theorem dX8_keptFor_139 : decode cX8_keptFor 139 = .ok (.aload_n 0, 1) := by decide +kernel
theorem dX8_keptFor_140 : decode cX8_keptFor 140 = .ok (.getfield 23, 3) := by decide +kernel
theorem dX8_keptFor_143 : decode cX8_keptFor 143 = .ok (.aload_n 0, 1) := by decide +kernel
theorem dX8_keptFor_144 : decode cX8_keptFor 144 = .ok (.getfield 228, 3) := by decide +kernel
theorem dX8_keptFor_147 : decode cX8_keptFor 147 = .ok (.iaload, 1) := by decide +kernel
theorem dX8_keptFor_148 : decode cX8_keptFor 148 = .ok (.if_icmp .ge 25, 3) := by decide +kernel
theorem dX8_keptFor_151 : decode cX8_keptFor 151 = .ok (.aload_n 0, 1) := by decide +kernel
theorem dX8_keptFor_152 : decode cX8_keptFor 152 = .ok (.iload 5, 2) := by decide +kernel
theorem dX8_keptFor_154 : decode cX8_keptFor 154 = .ok (.invokevirtual 404, 3) := by decide +kernel
theorem dX8_keptFor_157 : decode cX8_keptFor 157 = .ok (.ifCond .eq 10, 3) := by decide +kernel
theorem dX8_keptFor_160 : decode cX8_keptFor 160 = .ok (.lload_n 3, 1) := by decide +kernel
theorem dX8_keptFor_161 : decode cX8_keptFor 161 = .ok (.lconst 1, 1) := by decide +kernel
theorem dX8_keptFor_162 : decode cX8_keptFor 162 = .ok (.iload 5, 2) := by decide +kernel
theorem dX8_keptFor_164 : decode cX8_keptFor 164 = .ok (.lshl, 1) := by decide +kernel
theorem dX8_keptFor_165 : decode cX8_keptFor 165 = .ok (.lor, 1) := by decide +kernel
theorem dX8_keptFor_166 : decode cX8_keptFor 166 = .ok (.lstore_n 3, 1) := by decide +kernel
theorem dX8_keptFor_167 : decode cX8_keptFor 167 = .ok (.iinc 5 1, 3) := by decide +kernel
theorem dX8_keptFor_170 : decode cX8_keptFor 170 = .ok (.goto (-33), 3) := by decide +kernel
theorem dX8_keptFor_173 : decode cX8_keptFor 173 = .ok (.lload_n 3, 1) := by decide +kernel
theorem dX8_keptFor_174 : decode cX8_keptFor 174 = .ok (.lreturn, 1) := by decide +kernel
theorem dX8_of_0 : decode cX8_of 0 = .ok (.aload_n 0, 1) := by decide +kernel
theorem dX8_of_1 : decode cX8_of 1 = .ok (.aload_n 0, 1) := by decide +kernel
theorem dX8_of_2 : decode cX8_of 2 = .ok (.getfield 228, 3) := by decide +kernel
theorem dX8_of_5 : decode cX8_of 5 = .ok (.putfield 187, 3) := by decide +kernel
theorem dX8_of_8 : decode cX8_of 8 = .ok (.aload_n 0, 1) := by decide +kernel
theorem dX8_of_9 : decode cX8_of 9 = .ok (.iload_n 1, 1) := by decide +kernel
theorem dX8_of_10 : decode cX8_of 10 = .ok (.invokevirtual 389, 3) := by decide +kernel
theorem dX8_of_13 : decode cX8_of 13 = .ok (.ifCond .ne 5, 3) := by decide +kernel
theorem dX8_of_16 : decode cX8_of 16 = .ok (.iconst (-1), 1) := by decide +kernel
theorem dX8_of_17 : decode cX8_of 17 = .ok (.ireturn, 1) := by decide +kernel
theorem dX8_of_18 : decode cX8_of 18 = .ok (.aload_n 0, 1) := by decide +kernel
theorem dX8_of_19 : decode cX8_of 19 = .ok (.iload_n 1, 1) := by decide +kernel
theorem dX8_of_20 : decode cX8_of 20 = .ok (.invokevirtual 268, 3) := by decide +kernel
theorem dX8_of_23 : decode cX8_of 23 = .ok (.istore_n 3, 1) := by decide +kernel
theorem dX8_of_24 : decode cX8_of 24 = .ok (.iload_n 2, 1) := by decide +kernel
theorem dX8_of_25 : decode cX8_of 25 = .ok (.tableswitch 113 0 6 #[43, 50, 57, 64, 86, 93, 99], 43) := by decide +kernel
theorem dX8_of_68 : decode cX8_of 68 = .ok (.aload_n 0, 1) := by decide +kernel
theorem dX8_of_69 : decode cX8_of 69 = .ok (.getfield 29, 3) := by decide +kernel
theorem dX8_of_72 : decode cX8_of 72 = .ok (.iload_n 3, 1) := by decide +kernel
theorem dX8_of_73 : decode cX8_of 73 = .ok (.iaload, 1) := by decide +kernel
theorem dX8_of_74 : decode cX8_of 74 = .ok (.ireturn, 1) := by decide +kernel
theorem dX8_of_75 : decode cX8_of 75 = .ok (.aload_n 0, 1) := by decide +kernel
theorem dX8_of_76 : decode cX8_of 76 = .ok (.getfield 35, 3) := by decide +kernel
theorem dX8_of_79 : decode cX8_of 79 = .ok (.iload_n 3, 1) := by decide +kernel
theorem dX8_of_80 : decode cX8_of 80 = .ok (.iaload, 1) := by decide +kernel
theorem dX8_of_81 : decode cX8_of 81 = .ok (.ireturn, 1) := by decide +kernel
theorem dX8_of_82 : decode cX8_of 82 = .ok (.aload_n 0, 1) := by decide +kernel
theorem dX8_of_83 : decode cX8_of 83 = .ok (.getfield 38, 3) := by decide +kernel
theorem dX8_of_86 : decode cX8_of 86 = .ok (.iload_n 3, 1) := by decide +kernel
theorem dX8_of_87 : decode cX8_of 87 = .ok (.iaload, 1) := by decide +kernel
theorem dX8_of_88 : decode cX8_of 88 = .ok (.ireturn, 1) := by decide +kernel
theorem dX8_of_89 : decode cX8_of 89 = .ok (.aload_n 0, 1) := by decide +kernel
theorem dX8_of_90 : decode cX8_of 90 = .ok (.getfield 29, 3) := by decide +kernel
theorem dX8_of_93 : decode cX8_of 93 = .ok (.iload_n 3, 1) := by decide +kernel
theorem dX8_of_94 : decode cX8_of 94 = .ok (.iaload, 1) := by decide +kernel
theorem dX8_of_95 : decode cX8_of 95 = .ok (.iconst 1, 1) := by decide +kernel
theorem dX8_of_96 : decode cX8_of 96 = .ok (.if_icmp .ne 12, 3) := by decide +kernel
theorem dX8_of_99 : decode cX8_of 99 = .ok (.aload_n 0, 1) := by decide +kernel
theorem dX8_of_100 : decode cX8_of 100 = .ok (.getfield 50, 3) := by decide +kernel
theorem dX8_of_103 : decode cX8_of 103 = .ok (.iload_n 3, 1) := by decide +kernel
theorem dX8_of_104 : decode cX8_of 104 = .ok (.iaload, 1) := by decide +kernel
theorem dX8_of_105 : decode cX8_of 105 = .ok (.goto 5, 3) := by decide +kernel
theorem dX8_of_108 : decode cX8_of 108 = .ok (.bipush (-2), 2) := by decide +kernel
theorem dX8_of_110 : decode cX8_of 110 = .ok (.ireturn, 1) := by decide +kernel
theorem dX8_of_111 : decode cX8_of 111 = .ok (.aload_n 0, 1) := by decide +kernel
theorem dX8_of_112 : decode cX8_of 112 = .ok (.getfield 41, 3) := by decide +kernel
theorem dX8_of_115 : decode cX8_of 115 = .ok (.iload_n 3, 1) := by decide +kernel
theorem dX8_of_116 : decode cX8_of 116 = .ok (.iaload, 1) := by decide +kernel
theorem dX8_of_117 : decode cX8_of 117 = .ok (.ireturn, 1) := by decide +kernel
theorem dX8_of_118 : decode cX8_of 118 = .ok (.aload_n 0, 1) := by decide +kernel
theorem dX8_of_119 : decode cX8_of 119 = .ok (.iload_n 1, 1) := by decide +kernel
theorem dX8_of_120 : decode cX8_of 120 = .ok (.invokevirtual 392, 3) := by decide +kernel
theorem dX8_of_123 : decode cX8_of 123 = .ok (.ireturn, 1) := by decide +kernel
theorem dX8_of_124 : decode cX8_of 124 = .ok (.aload_n 0, 1) := by decide +kernel
theorem dX8_of_125 : decode cX8_of 125 = .ok (.iload_n 1, 1) := by decide +kernel
theorem dX8_of_126 : decode cX8_of 126 = .ok (.invokevirtual 338, 3) := by decide +kernel
theorem dX8_of_129 : decode cX8_of 129 = .ok (.ifCond .eq 7, 3) := by decide +kernel
theorem dX8_of_132 : decode cX8_of 132 = .ok (.iconst 1, 1) := by decide +kernel
theorem dX8_of_133 : decode cX8_of 133 = .ok (.goto 4, 3) := by decide +kernel
theorem dX8_of_136 : decode cX8_of 136 = .ok (.iconst 0, 1) := by decide +kernel
theorem dX8_of_137 : decode cX8_of 137 = .ok (.ireturn, 1) := by decide +kernel
theorem dX8_of_138 : decode cX8_of 138 = .ok (.iconst (-1), 1) := by decide +kernel
theorem dX8_of_139 : decode cX8_of 139 = .ok (.ireturn, 1) := by decide +kernel
set_option maxHeartbeats 4000000 in
set_option maxRecDepth 100000 in
theorem s_X8_isStatement_x (l : Launch) (d : Nat) {P : PP} {h : HP} (hv : Iv P h) (a2 : Int32) : Mt l yX8_isStatement cX8_isStatement 2 (some .boolean) (d + 2) [.ref 70, .int a2] h 0 0 (fun r h' => ∃ v : Int32, r = some (.int v) ∧ 0 ≤ v.toInt ∧ v.toInt ≤ 1 ∧ h = h' ∧ (v.toInt = 1 → 0 ≤ a2.toInt ∧ a2.toInt ≤ 39) ∧ (v.toInt = 1 → (h.2.1 70 30).toInt = 1 ∧ a2.toInt < V h.2.1 75 (h.2.1 70 29).toInt)) := by
  refine Mt_iv hv (by decide) (Nat.le_of_ble_eq_true rfl) ?_
  show Go l RX8 cX8_isStatement 2 (g_rm (d + 2) 0 0) "isStatement" (some .boolean) 117 0 0 (fun _ _ => True) (fun r h' => ∃ v : Int32, r = some (.int v) ∧ 0 ≤ v.toInt ∧ v.toInt ≤ 1 ∧ h = h' ∧ (v.toInt = 1 → 0 ≤ a2.toInt ∧ a2.toInt ≤ 39) ∧ (v.toInt = 1 → (h.2.1 70 30).toInt = 1 ∧ a2.toInt < V h.2.1 75 (h.2.1 70 29).toInt)) 0 0 [(0, .ref 70), (1, .int a2)] [] h
  refine go_aload_n (pc := 0) rfl dX8_isStatement_0 ?_
  refine gi_get (pc := 1) (lo := 0) (hi := 1) hv fL_X8_243 rfl (Nat.le_of_ble_eq_true rfl) rfl rfl dX8_isStatement_1 (fun v1 v1l v1u v1w => ?_)
  refine gf_if_eq (pc := 4) (tgt := 30) (ti_rfl v1) (by decide) dX8_isStatement_4 (fun q2 => ?_) (fun q2 => ?_)
  ·
    refine go_iconst (pc := 30) (v := 0) (by decide) dX8_isStatement_30 ?_
    exact gi_zret (pc := 31) (ti_c (v := 0) (a := 0) (by decide)) (by omega) (by omega) ⟨_, rfl, (by rw [show (0 : Int32).toInt = 0 from (ti_c (v := 0) (a := 0) (by decide))]; omega), (by rw [show (0 : Int32).toInt = 0 from (ti_c (v := 0) (a := 0) (by decide))]; omega), rfl, (by rw [show (0 : Int32).toInt = 0 from (ti_c (v := 0) (a := 0) (by decide))]; omega), (fun q => absurd q (by decide))⟩ hv dX8_isStatement_31
  ·
    refine go_iload_n (pc := 7) rfl dX8_isStatement_7 ?_
    refine go_iconst (pc := 8) (v := 0) (by decide) dX8_isStatement_8 ?_
    refine go_aload_n (pc := 9) rfl dX8_isStatement_9 ?_
    refine gi_getF (pc := 10) (q := 75) hv fL_X8_23 rfl (Nat.le_of_ble_eq_true rfl) rfl (hv.rf (by decide)) dX8_isStatement_10 ?_
    refine go_aload_n (pc := 13) rfl dX8_isStatement_13 ?_
    refine gi_get (pc := 14) (lo := 0) (hi := 1) hv fL_X8_228 rfl (Nat.le_of_ble_eq_true rfl) rfl rfl dX8_isStatement_14 (fun v3 v3l v3u v3w => ?_)
    refine gi_iald (pc := 17) (lo := 0) (hi := 40) (len := 2) hv (ti_rfl v3) rfl (by omega) (by omega) (fun _ => rfl) dX8_isStatement_17 (fun v4 v4l v4u v4w => ?_)
    refine go_iconst (pc := 18) (v := 1) (by decide) dX8_isStatement_18 ?_
    refine gf_isub (pc := 19) (ti_rfl v4) (ti_c (v := 1) (a := 1) (by decide)) (by omega) (by omega) dX8_isStatement_19 (fun v5 e6 => ?_)
    refine go_invS (pc := 20) (sl := 0) (s_X8_isIn l (d + 0) hv a2 0 v5) mL_X8_159 iM_X8_isIn rfl rfl (Nat.le_of_ble_eq_true rfl) (show d + 0 + 1 + 1 ≤ d + 2 by omega) (show 8 + (3 + 11) + 40 * (d + 0 + 1) ≤ 40 * (d + 2) by omega) (g_c0 hv.ln) (Nat.le_of_ble_eq_true rfl) dX8_isStatement_20 ?_
    intro r h7 hq _
    obtain ⟨v10, rfl, v10l, v10u, rfl, f8, f9⟩ := hq
    try rw [show (0 : Int32).toInt = 0 from (ti_c (v := 0) (a := 0) (by decide))] at f8
    try rw [show (v5 : Int32).toInt = (v4.toInt - 1) from e6] at f8
    try rw [show (0 : Int32).toInt = 0 from (ti_c (v := 0) (a := 0) (by decide))] at f9
    try rw [show (v5 : Int32).toInt = (v4.toInt - 1) from e6] at f9
    refine gf_if_eq (pc := 23) (tgt := 30) (ti_rfl v10) (by decide) dX8_isStatement_23 (fun q11 => ?_) (fun q11 => ?_)
    ·
      refine go_iconst (pc := 30) (v := 0) (by decide) dX8_isStatement_30 ?_
      exact gi_zret (pc := 31) (ti_c (v := 0) (a := 0) (by decide)) (by omega) (by omega) ⟨_, rfl, (by rw [show (0 : Int32).toInt = 0 from (ti_c (v := 0) (a := 0) (by decide))]; omega), (by rw [show (0 : Int32).toInt = 0 from (ti_c (v := 0) (a := 0) (by decide))]; omega), rfl, (by rw [show (0 : Int32).toInt = 0 from (ti_c (v := 0) (a := 0) (by decide))]; omega), (fun q => absurd q (by decide))⟩ hv dX8_isStatement_31
    ·
      refine go_iconst (pc := 26) (v := 1) (by decide) dX8_isStatement_26 ?_
      refine go_goto (pc := 27) (tgt := 31) (by decide) dX8_isStatement_27 ?_
      exact gi_zret (pc := 31) (ti_c (v := 1) (a := 1) (by decide)) (by omega) (by omega) ⟨_, rfl, (by rw [show (1 : Int32).toInt = 1 from (ti_c (v := 1) (a := 1) (by decide))]; omega), (by rw [show (1 : Int32).toInt = 1 from (ti_c (v := 1) (a := 1) (by decide))]; omega), rfl, (by rw [show (1 : Int32).toInt = 1 from (ti_c (v := 1) (a := 1) (by decide))]; omega), (fun _ => ⟨by rw [← v1w]; omega, by rw [← v3w]; show _ < (h.2.1 75 (v3.toInt).toNat).toInt; rw [← v4w]; omega⟩)⟩ hv dX8_isStatement_31
set_option maxHeartbeats 4000000 in
set_option maxRecDepth 100000 in
theorem s_X8_of (l : Launch) (d : Nat) {P : PP} {h : HP} (hv : Iv P h) (a2 : Int32) (a3 : Int32) (ckf : CKF h.2.1) (hlv : LV h.2.1) : Mt l yX8_of cX8_of 4 (some .int) (d + 542) [.ref 70, .int a2, .int a3] h 0 0 (fun r h' => ∃ v : Int32, r = some (.int v) ∧ -2147483648 ≤ v.toInt ∧ v.toInt ≤ 2147483647 ∧ Iv (gs P) h') := by
  refine Mt_iv hv (by decide) (Nat.le_of_ble_eq_true rfl) ?_
  show Go l RX8 cX8_of 4 (g_rm (d + 542) 0 0) "of" (some .int) 117 0 0 (fun _ _ => True) (fun r h' => ∃ v : Int32, r = some (.int v) ∧ -2147483648 ≤ v.toInt ∧ v.toInt ≤ 2147483647 ∧ Iv (gs P) h') 0 0 [(0, .ref 70), (1, .int a2), (2, .int a3)] [] h
  refine go_aload_n (pc := 0) rfl dX8_of_0 ?_
  refine go_aload_n (pc := 1) rfl dX8_of_1 ?_
  refine gi_get (pc := 2) (lo := 0) (hi := 1) hv fL_X8_228 rfl (Nat.le_of_ble_eq_true rfl) rfl rfl dX8_of_2 (fun v1 v1l v1u v1w => ?_)
  refine gi_putS (pc := 5) hv v1w (fP_X8_187 _) dX8_of_5 (fun h2 hv2 hv2e => ?_)
  refine go_aload_n (pc := 8) rfl dX8_of_8 ?_
  refine go_iload_n (pc := 9) rfl dX8_of_9 ?_
  refine go_invV (pc := 10) (sl := 0) (s_X8_isStatement_x l (d + 539) hv2 a2) mL_X8_389 iM_X8_isStatement sM_X8_isStatement (hv2.sh rfl) rfl rfl rfl (Nat.le_of_ble_eq_true rfl) (show d + 539 + 2 + 1 ≤ d + 542 by omega) (show 8 + (2 + 11) + 40 * (d + 539 + 2) ≤ 40 * (d + 542) by omega) (g_c0 hv2.ln) (Nat.le_of_ble_eq_true rfl) dX8_of_10 ?_
  intro r h3 hq _
  obtain ⟨v5, rfl, v5l, v5u, rfl, f6, f4⟩ := hq
  refine gf_if_ne (pc := 13) (tgt := 18) (ti_rfl v5) (by decide) dX8_of_13 (fun q7 => ?_) (fun q7 => ?_)
  ·
    refine go_aload_n (pc := 18) rfl dX8_of_18 ?_
    refine go_iload_n (pc := 19) rfl dX8_of_19 ?_
    refine go_invV (pc := 20) (sl := 0) (s_X8_item l (d + 540) hv2 a2 (by rw [show (a2 : Int32).toInt = a2.toInt from (ti_rfl a2)]; omega) (by rw [show (a2 : Int32).toInt = a2.toInt from (ti_rfl a2)]; omega)) mL_X8_268 iM_X8_item sM_X8_item (hv2.sh rfl) rfl rfl rfl (Nat.le_of_ble_eq_true rfl) (show d + 540 + 1 + 1 ≤ d + 542 by omega) (show 8 + (2 + 11) + 40 * (d + 540 + 1) ≤ 40 * (d + 542) by omega) (g_c0 hv2.ln) (Nat.le_of_ble_eq_true rfl) dX8_of_20 ?_
    intro r h8 hq _
    obtain ⟨v10, rfl, v10l, v10u, rfl, f9⟩ := hq
    refine go_istore_n (pc := 23) (Nat.le_of_ble_eq_true rfl) dX8_of_23 (go_lv (lv2 := [(0, .ref 70), (1, .int a2), (2, .int a3), (3, .int v10)]) rfl ?_)
    refine go_iload_n (pc := 24) rfl dX8_of_24 ?_
    by_cases q11 : a3.toInt = 0
    ·
      refine go_tableIn (pc := 25) (tgt := 68) (off := 43) (by rw [show (a3 : Int32).toInt = a3.toInt from (ti_rfl a3)]; omega) (by rw [show (a3 : Int32).toInt = a3.toInt from (ti_rfl a3)]; omega) (by rw [show (a3 : Int32).toInt = a3.toInt from (ti_rfl a3), q11]; rfl) (by decide) dX8_of_25 ?_
      refine go_aload_n (pc := 68) rfl dX8_of_68 ?_
      refine gi_getF (pc := 69) (q := 77) hv2 fL_X8_29 rfl (Nat.le_of_ble_eq_true rfl) rfl (hv2.rf (by decide)) dX8_of_69 ?_
      refine go_iload_n (pc := 72) rfl dX8_of_72 ?_
      refine gi_iald (pc := 73) (lo := 0) (hi := 6) (len := 260) hv2 (ti_rfl v10) rfl (by omega) (by omega) (fun _ => rfl) dX8_of_73 (fun v12 v12l v12u v12w => ?_)
      exact gi_iret (pc := 74) (ti_rfl v12) ⟨_, rfl, (ti_lo _), (ti_hi _), hv2⟩ hv2 dX8_of_74
    by_cases q13 : a3.toInt = 1
    ·
      refine go_tableIn (pc := 25) (tgt := 75) (off := 50) (by rw [show (a3 : Int32).toInt = a3.toInt from (ti_rfl a3)]; omega) (by rw [show (a3 : Int32).toInt = a3.toInt from (ti_rfl a3)]; omega) (by rw [show (a3 : Int32).toInt = a3.toInt from (ti_rfl a3), q13]; rfl) (by decide) dX8_of_25 ?_
      refine go_aload_n (pc := 75) rfl dX8_of_75 ?_
      refine gi_getF (pc := 76) (q := 79) hv2 fL_X8_35 rfl (Nat.le_of_ble_eq_true rfl) rfl (hv2.rf (by decide)) dX8_of_76 ?_
      refine go_iload_n (pc := 79) rfl dX8_of_79 ?_
      refine gi_iald (pc := 80) (lo := 0) (hi := 4) (len := 260) hv2 (ti_rfl v10) rfl (by omega) (by omega) (fun _ => rfl) dX8_of_80 (fun v14 v14l v14u v14w => ?_)
      exact gi_iret (pc := 81) (ti_rfl v14) ⟨_, rfl, (ti_lo _), (ti_hi _), hv2⟩ hv2 dX8_of_81
    by_cases q15 : a3.toInt = 2
    ·
      refine go_tableIn (pc := 25) (tgt := 82) (off := 57) (by rw [show (a3 : Int32).toInt = a3.toInt from (ti_rfl a3)]; omega) (by rw [show (a3 : Int32).toInt = a3.toInt from (ti_rfl a3)]; omega) (by rw [show (a3 : Int32).toInt = a3.toInt from (ti_rfl a3), q15]; rfl) (by decide) dX8_of_25 ?_
      refine go_aload_n (pc := 82) rfl dX8_of_82 ?_
      refine gi_getF (pc := 83) (q := 80) hv2 fL_X8_38 rfl (Nat.le_of_ble_eq_true rfl) rfl (hv2.rf (by decide)) dX8_of_83 ?_
      refine go_iload_n (pc := 86) rfl dX8_of_86 ?_
      refine gi_iald (pc := 87) (lo := 0) (hi := 6) (len := 260) hv2 (ti_rfl v10) rfl (by omega) (by omega) (fun _ => rfl) dX8_of_87 (fun v16 v16l v16u v16w => ?_)
      exact gi_iret (pc := 88) (ti_rfl v16) ⟨_, rfl, (ti_lo _), (ti_hi _), hv2⟩ hv2 dX8_of_88
    by_cases q17 : a3.toInt = 3
    ·
      refine go_tableIn (pc := 25) (tgt := 89) (off := 64) (by rw [show (a3 : Int32).toInt = a3.toInt from (ti_rfl a3)]; omega) (by rw [show (a3 : Int32).toInt = a3.toInt from (ti_rfl a3)]; omega) (by rw [show (a3 : Int32).toInt = a3.toInt from (ti_rfl a3), q17]; rfl) (by decide) dX8_of_25 ?_
      refine go_aload_n (pc := 89) rfl dX8_of_89 ?_
      refine gi_getF (pc := 90) (q := 77) hv2 fL_X8_29 rfl (Nat.le_of_ble_eq_true rfl) rfl (hv2.rf (by decide)) dX8_of_90 ?_
      refine go_iload_n (pc := 93) rfl dX8_of_93 ?_
      refine gi_iald (pc := 94) (lo := 0) (hi := 6) (len := 260) hv2 (ti_rfl v10) rfl (by omega) (by omega) (fun _ => rfl) dX8_of_94 (fun v18 v18l v18u v18w => ?_)
      refine go_iconst (pc := 95) (v := 1) (by decide) dX8_of_95 ?_
      refine gf_icmp_ne (pc := 96) (tgt := 108) (ti_rfl v18) (ti_c (v := 1) (a := 1) (by decide)) (by decide) dX8_of_96 (fun q19 => ?_) (fun q19 => ?_)
      ·
        refine go_bipush (pc := 108) (v := (-2)) (by decide) dX8_of_108 ?_
        exact gi_iret (pc := 110) (ti_c (v := (-2)) (a := (-2)) (by decide)) ⟨_, rfl, (ti_lo _), (ti_hi _), hv2⟩ hv2 dX8_of_110
      ·
        refine go_aload_n (pc := 99) rfl dX8_of_99 ?_
        refine gi_getF (pc := 100) (q := 84) hv2 fL_X8_50 rfl (Nat.le_of_ble_eq_true rfl) rfl (hv2.rf (by decide)) dX8_of_100 ?_
        refine go_iload_n (pc := 103) rfl dX8_of_103 ?_
        refine gi_iald (pc := 104) (lo := -2) (hi := 4) (len := 260) hv2 (ti_rfl v10) rfl (by omega) (by omega) (fun _ => rfl) dX8_of_104 (fun v20 v20l v20u v20w => ?_)
        refine go_goto (pc := 105) (tgt := 110) (by decide) dX8_of_105 ?_
        exact gi_iret (pc := 110) (ti_rfl v20) ⟨_, rfl, (ti_lo _), (ti_hi _), hv2⟩ hv2 dX8_of_110
    by_cases q21 : a3.toInt = 4
    ·
      refine go_tableIn (pc := 25) (tgt := 111) (off := 86) (by rw [show (a3 : Int32).toInt = a3.toInt from (ti_rfl a3)]; omega) (by rw [show (a3 : Int32).toInt = a3.toInt from (ti_rfl a3)]; omega) (by rw [show (a3 : Int32).toInt = a3.toInt from (ti_rfl a3), q21]; rfl) (by decide) dX8_of_25 ?_
      refine go_aload_n (pc := 111) rfl dX8_of_111 ?_
      refine gi_getF (pc := 112) (q := 81) hv2 fL_X8_41 rfl (Nat.le_of_ble_eq_true rfl) rfl (hv2.rf (by decide)) dX8_of_112 ?_
      refine go_iload_n (pc := 115) rfl dX8_of_115 ?_
      refine gi_iald (pc := 116) (lo := -2147483648) (hi := 2147483647) (len := 260) hv2 (ti_rfl v10) rfl (by omega) (by omega) (fun _ => rfl) dX8_of_116 (fun v22 v22l v22u v22w => ?_)
      exact gi_iret (pc := 117) (ti_rfl v22) ⟨_, rfl, (ti_lo _), (ti_hi _), hv2⟩ hv2 dX8_of_117
    by_cases q23 : a3.toInt = 5
    ·
      refine go_tableIn (pc := 25) (tgt := 118) (off := 93) (by rw [show (a3 : Int32).toInt = a3.toInt from (ti_rfl a3)]; omega) (by rw [show (a3 : Int32).toInt = a3.toInt from (ti_rfl a3)]; omega) (by rw [show (a3 : Int32).toInt = a3.toInt from (ti_rfl a3), q23]; rfl) (by decide) dX8_of_25 ?_
      refine go_aload_n (pc := 118) rfl dX8_of_118 ?_
      refine go_iload_n (pc := 119) rfl dX8_of_119 ?_
      have lvq := LV.ofgs hv hv2 hlv (f4 (by omega)).1
      refine go_invV (pc := 120) (sl := 0) (s_X8_catcher l (d + 0) hv2 a2 (by rw [show (a2 : Int32).toInt = a2.toInt from (ti_rfl a2)]; omega) (by rw [show (a2 : Int32).toInt = a2.toInt from (ti_rfl a2)]; omega) (by rw [gs6b hv hv2]; exact ⟨lvq.1.1, lvq.1.2.1⟩) (by rw [gs6b hv hv2]; exact (f4 (by omega)).2)) mL_X8_392 iM_X8_catcher sM_X8_catcher (hv2.sh rfl) rfl rfl rfl (Nat.le_of_ble_eq_true rfl) (show d + 0 + 541 + 1 ≤ d + 542 by omega) (show 8 + (5 + 11) + 40 * (d + 0 + 541) ≤ 40 * (d + 542) by omega) (g_c0 hv2.ln) (Nat.le_of_ble_eq_true rfl) dX8_of_120 ?_
      intro r h24 hq _
      obtain ⟨v25, rfl, v25l, v25u, rfl⟩ := hq
      exact gi_iret (pc := 123) (ti_rfl v25) ⟨_, rfl, (ti_lo _), (ti_hi _), hv2⟩ hv2 dX8_of_123
    by_cases q26 : a3.toInt = 6
    ·
      refine go_tableIn (pc := 25) (tgt := 124) (off := 99) (by rw [show (a3 : Int32).toInt = a3.toInt from (ti_rfl a3)]; omega) (by rw [show (a3 : Int32).toInt = a3.toInt from (ti_rfl a3)]; omega) (by rw [show (a3 : Int32).toInt = a3.toInt from (ti_rfl a3), q26]; rfl) (by decide) dX8_of_25 ?_
      refine go_aload_n (pc := 124) rfl dX8_of_124 ?_
      refine go_iload_n (pc := 125) rfl dX8_of_125 ?_
      refine go_invV (pc := 126) (sl := 0) (s_X8_decides_x l (d + 537) hv2 a2 (by rw [show (a2 : Int32).toInt = a2.toInt from (ti_rfl a2)]; omega) (by rw [show (a2 : Int32).toInt = a2.toInt from (ti_rfl a2)]; omega) (CKF.ve (VE.ofgs hv hv2) ckf)) mL_X8_338 iM_X8_decides sM_X8_decides (hv2.sh rfl) rfl rfl rfl (Nat.le_of_ble_eq_true rfl) (show d + 537 + 4 + 1 ≤ d + 542 by omega) (show 8 + (3 + 11) + 40 * (d + 537 + 4) ≤ 40 * (d + 542) by omega) (g_c0 hv2.ln) (Nat.le_of_ble_eq_true rfl) dX8_of_126 ?_
      intro r h27 hq _
      obtain ⟨v29, rfl, v29l, v29u, rfl, f28⟩ := hq
      refine gf_if_eq (pc := 129) (tgt := 136) (ti_rfl v29) (by decide) dX8_of_129 (fun q30 => ?_) (fun q30 => ?_)
      ·
        refine go_iconst (pc := 136) (v := 0) (by decide) dX8_of_136 ?_
        exact gi_iret (pc := 137) (ti_c (v := 0) (a := 0) (by decide)) ⟨_, rfl, (ti_lo _), (ti_hi _), hv2⟩ hv2 dX8_of_137
      ·
        refine go_iconst (pc := 132) (v := 1) (by decide) dX8_of_132 ?_
        refine go_goto (pc := 133) (tgt := 137) (by decide) dX8_of_133 ?_
        exact gi_iret (pc := 137) (ti_c (v := 1) (a := 1) (by decide)) ⟨_, rfl, (ti_lo _), (ti_hi _), hv2⟩ hv2 dX8_of_137
    refine go_tableOut (pc := 25) (tgt := 138) (by rw [show (a3 : Int32).toInt = a3.toInt from (ti_rfl a3)]; omega) (by decide) dX8_of_25 ?_
    refine go_iconst (pc := 138) (v := (-1)) (by decide) dX8_of_138 ?_
    exact gi_iret (pc := 139) (ti_c (v := (-1)) (a := (-1)) (by decide)) ⟨_, rfl, (ti_lo _), (ti_hi _), hv2⟩ hv2 dX8_of_139
  ·
    refine go_iconst (pc := 16) (v := (-1)) (by decide) dX8_of_16 ?_
    exact gi_iret (pc := 17) (ti_c (v := (-1)) (a := (-1)) (by decide)) ⟨_, rfl, (ti_lo _), (ti_hi _), hv2⟩ hv2 dX8_of_17
set_option maxHeartbeats 4000000 in
set_option maxRecDepth 100000 in
theorem s_X8_backOf (l : Launch) (d : Nat) {P : PP} {h : HP} (hv : Iv P h) (a2 : Int32) (a3 : Int32) (ckf : CKF h.2.1) : Mt l yX8_backOf cX8_backOf 3 (some .long) (d + 6) [.ref 70, .int a2, .int a3] h 0 0 (fun r h' => ∃ v : Int64, r = some (.long v) ∧ Iv (gs P) h') := by
  refine Mt_iv hv (by decide) (Nat.le_of_ble_eq_true rfl) ?_
  show Go l RX8 cX8_backOf 3 (g_rm (d + 6) 0 0) "backOf" (some .long) 117 0 0 (fun _ _ => True) (fun r h' => ∃ v : Int64, r = some (.long v) ∧ Iv (gs P) h') 0 0 [(0, .ref 70), (1, .int a2), (2, .int a3)] [] h
  refine go_aload_n (pc := 0) rfl dX8_backOf_0 ?_
  refine go_aload_n (pc := 1) rfl dX8_backOf_1 ?_
  refine gi_get (pc := 2) (lo := 0) (hi := 1) hv fL_X8_228 rfl (Nat.le_of_ble_eq_true rfl) rfl rfl dX8_backOf_2 (fun v1 v1l v1u v1w => ?_)
  refine gi_putS (pc := 5) hv v1w (fP_X8_187 _) dX8_backOf_5 (fun h2 hv2 hv2e => ?_)
  refine go_aload_n (pc := 8) rfl dX8_backOf_8 ?_
  refine go_iload_n (pc := 9) rfl dX8_backOf_9 ?_
  refine go_invV (pc := 10) (sl := 0) (s_X8_isProcedure l (d + 3) hv2 a2) mL_X8_395 iM_X8_isProcedure sM_X8_isProcedure (hv2.sh rfl) rfl rfl rfl (Nat.le_of_ble_eq_true rfl) (show d + 3 + 2 + 1 ≤ d + 6 by omega) (show 8 + (2 + 11) + 40 * (d + 3 + 2) ≤ 40 * (d + 6) by omega) (g_c0 hv2.ln) (Nat.le_of_ble_eq_true rfl) dX8_backOf_10 ?_
  intro r h3 hq _
  obtain ⟨v4, rfl, v4l, v4u, rfl, f5⟩ := hq
  refine gf_if_eq (pc := 13) (tgt := 25) (ti_rfl v4) (by decide) dX8_backOf_13 (fun q6 => ?_) (fun q6 => ?_)
  ·
    refine go_ldc2 (pc := 25) kL_X8_329 dX8_backOf_25 ?_
    exact gi_lret (pc := 28) ⟨_, rfl, hv2⟩ hv2 dX8_backOf_28
  ·
    refine go_iload_n (pc := 16) rfl dX8_backOf_16 ?_
    refine go_iconst (pc := 17) (v := 0) (by decide) dX8_backOf_17 ?_
    refine go_iconst (pc := 18) (v := 5) (by decide) dX8_backOf_18 ?_
    refine go_invS (pc := 19) (sl := 0) (s_X8_isIn l (d + 4) hv2 a3 0 5) mL_X8_159 iM_X8_isIn rfl rfl (Nat.le_of_ble_eq_true rfl) (show d + 4 + 1 + 1 ≤ d + 6 by omega) (show 8 + (3 + 11) + 40 * (d + 4 + 1) ≤ 40 * (d + 6) by omega) (g_c0 hv2.ln) (Nat.le_of_ble_eq_true rfl) dX8_backOf_19 ?_
    intro r h7 hq _
    obtain ⟨v10, rfl, v10l, v10u, rfl, f8, f9⟩ := hq
    try rw [show (0 : Int32).toInt = 0 from (ti_c (v := 0) (a := 0) (by decide))] at f8
    try rw [show (5 : Int32).toInt = 5 from (ti_c (v := 5) (a := 5) (by decide))] at f8
    try rw [show (0 : Int32).toInt = 0 from (ti_c (v := 0) (a := 0) (by decide))] at f9
    try rw [show (5 : Int32).toInt = 5 from (ti_c (v := 5) (a := 5) (by decide))] at f9
    refine gf_if_ne (pc := 22) (tgt := 29) (ti_rfl v10) (by decide) dX8_backOf_22 (fun q11 => ?_) (fun q11 => ?_)
    ·
      refine go_aload_n (pc := 29) rfl dX8_backOf_29 ?_
      refine go_invV (pc := 30) (sl := 0) (s_X8_empties_x l (d + 4) hv2 ) mL_X8_356 iM_X8_empties sM_X8_empties (hv2.sh rfl) rfl rfl rfl (Nat.le_of_ble_eq_true rfl) (show d + 4 + 1 + 1 ≤ d + 6 by omega) (show 8 + (2 + 11) + 40 * (d + 4 + 1) ≤ 40 * (d + 6) by omega) (g_c0 hv2.ln) (Nat.le_of_ble_eq_true rfl) dX8_backOf_30 ?_
      intro r h12 hq _
      obtain ⟨rfl, hv12, f13, f14⟩ := hq
      refine go_aload_n (pc := 33) rfl dX8_backOf_33 ?_
      refine go_iload_n (pc := 34) rfl dX8_backOf_34 ?_
      refine go_bipush (pc := 35) (v := 7) (by decide) dX8_backOf_35 ?_
      refine go_iload_n (pc := 37) rfl dX8_backOf_37 ?_
      refine gf_iadd (pc := 38) (ti_c (v := 7) (a := 7) (by decide)) (ti_rfl a3) (by omega) (by omega) dX8_backOf_38 (fun v15 e16 => ?_)
      refine go_invS (pc := 39) (sl := 0) (s_X8_procedurePlace l (d + 4) hv12 a2 (by rw [show (a2 : Int32).toInt = a2.toInt from (ti_rfl a2)]; omega) (by rw [show (a2 : Int32).toInt = a2.toInt from (ti_rfl a2)]; omega) v15 (by rw [show (v15 : Int32).toInt = (7 + a3.toInt) from e16]; omega) (by rw [show (v15 : Int32).toInt = (7 + a3.toInt) from e16]; omega)) mL_X8_300 iM_X8_procedurePlace rfl rfl (Nat.le_of_ble_eq_true rfl) (show d + 4 + 1 + 1 ≤ d + 6 by omega) (show 8 + (2 + 11) + 40 * (d + 4 + 1) ≤ 40 * (d + 6) by omega) (g_c0 hv12.ln) (Nat.le_of_ble_eq_true rfl) dX8_backOf_39 ?_
      intro r h17 hq _
      obtain ⟨v18, rfl, v18l, v18u, rfl⟩ := hq
      refine go_invV (pc := 42) (sl := 0) (s_X8_reach l (d + 3) hv12 v18 (by rw [show (v18 : Int32).toInt = v18.toInt from (ti_rfl v18)]; omega) (by rw [show (v18 : Int32).toInt = v18.toInt from (ti_rfl v18)]; omega) (EM.hw f13)) mL_X8_347 iM_X8_reach sM_X8_reach (hv12.sh rfl) rfl rfl rfl (Nat.le_of_ble_eq_true rfl) (show d + 3 + 2 + 1 ≤ d + 6 by omega) (show 8 + (2 + 11) + 40 * (d + 3 + 2) ≤ 40 * (d + 6) by omega) (g_c0 hv12.ln) (Nat.le_of_ble_eq_true rfl) dX8_backOf_42 ?_
      intro r h19 hq _
      obtain ⟨rfl, hv19, f20⟩ := hq
      refine go_aload_n (pc := 45) rfl dX8_backOf_45 ?_
      refine go_invV (pc := 46) (sl := 0) (s_X8_goesBack l (d + 0) hv19 (RC.ph f20 (by omega) (by omega) (EM.hw f13)).1 (CKF.ve (VE.ofgs hv hv19) ckf)) mL_X8_375 iM_X8_goesBack sM_X8_goesBack (hv19.sh rfl) rfl rfl rfl (Nat.le_of_ble_eq_true rfl) (show d + 0 + 5 + 1 ≤ d + 6 by omega) (show 8 + (2 + 11) + 40 * (d + 0 + 5) ≤ 40 * (d + 6) by omega) (g_c0 hv19.ln) (Nat.le_of_ble_eq_true rfl) dX8_backOf_46 ?_
      intro r h21 hq _
      obtain ⟨rfl, hv21, f22, f23⟩ := hq
      refine go_aload_n (pc := 49) rfl dX8_backOf_49 ?_
      refine go_invV (pc := 50) (sl := 0) (s_X8_inSet l (d + 3) hv21 ) mL_X8_378 iM_X8_inSet sM_X8_inSet (hv21.sh rfl) rfl rfl rfl (Nat.le_of_ble_eq_true rfl) (show d + 3 + 2 + 1 ≤ d + 6 by omega) (show 8 + (5 + 11) + 40 * (d + 3 + 2) ≤ 40 * (d + 6) by omega) (g_c0 hv21.ln) (Nat.le_of_ble_eq_true rfl) dX8_backOf_50 ?_
      intro r h24 hq _
      obtain ⟨v25, rfl, rfl⟩ := hq
      exact gi_lret (pc := 53) ⟨_, rfl, hv21⟩ hv21 dX8_backOf_53
    ·
      refine go_ldc2 (pc := 25) kL_X8_329 dX8_backOf_25 ?_
      exact gi_lret (pc := 28) ⟨_, rfl, hv2⟩ hv2 dX8_backOf_28
set_option maxHeartbeats 4000000 in
set_option maxRecDepth 100000 in
theorem s_X8_joins_x (l : Launch) (d : Nat) {P : PP} {h : HP} (hv : Iv P h)  : Mt l yX8_joins cX8_joins 2 none (d + 1) [.ref 70] h 0 0 (fun r h' => r = none ∧ Iv P h' ∧ (JN h.2.1 h'.2.1)) := by
  refine Mt_iv hv (by decide) (Nat.le_of_ble_eq_true rfl) ?_
  show Go l RX8 cX8_joins 2 (g_rm (d + 1) 0 0) "joins" none 117 0 0 (fun _ _ => True) (fun r h' => r = none ∧ Iv P h' ∧ (JN h.2.1 h'.2.1)) 0 0 [(0, .ref 70)] [] h
  have key : ∀ n : Nat, (∀ (l1 : Int32) (hx : HP), Iv P hx → 0 ≤ l1.toInt → l1.toInt ≤ 19 → (∀ j : Nat, hx.2.1 112 j = if (j : Int) < l1.toInt then h.2.1 112 j ||| h.2.1 109 j else h.2.1 112 j) → (∀ c j : Nat, c ≠ 112 → hx.2.1 c j = h.2.1 c j) → (3 * (19 - l1.toInt) + 2 : Int) < n → Go l RX8 cX8_joins 2 (g_rm (d + 1) 0 0) "joins" none 117 0 0 (fun _ _ => True) (fun r h' => r = none ∧ Iv P h' ∧ (JN h.2.1 h'.2.1)) 0 2 [(0, .ref 70), (1, .int l1)] [] hx) := by
    intro n
    induction n with
    | zero => exact (by intros; omega)
    | succ n ih =>
      refine ?_
      ·
        intro l1 hx hvx l1l l1u x0 x1 hm
        refine go_iload_n (pc := 2) rfl dX8_joins_2 ?_
        refine go_bipush (pc := 3) (v := 19) (by decide) dX8_joins_3 ?_
        refine gf_icmp_ge (pc := 5) (tgt := 29) (ti_rfl l1) (ti_c (v := 19) (a := 19) (by decide)) (by decide) dX8_joins_5 (fun q1 => ?_) (fun q1 => ?_)
        ·
          exact gi_vret (pc := 29) ⟨rfl, hvx, (JN.mk (fun j q => by rw [x0, if_pos (by omega)]) x1)⟩ hvx dX8_joins_29
        ·
          refine go_aload_n (pc := 8) rfl dX8_joins_8 ?_
          refine gi_getF (pc := 9) (q := 112) hvx fL_X8_136 rfl (Nat.le_of_ble_eq_true rfl) rfl (hvx.rf (by decide)) dX8_joins_9 ?_
          refine go_iload_n (pc := 12) rfl dX8_joins_12 ?_
          refine go_dup2 (pc := 13) rfl rfl dX8_joins_13 ?_
          refine gi_iald (pc := 14) (lo := -2147483648) (hi := 2147483647) (len := 19) hvx (ti_rfl l1) rfl (by omega) (by omega) (fun _ => rfl) dX8_joins_14 (fun v2 v2l v2u v2w => ?_)
          refine go_aload_n (pc := 15) rfl dX8_joins_15 ?_
          refine gi_getF (pc := 16) (q := 109) hvx fL_X8_127 rfl (Nat.le_of_ble_eq_true rfl) rfl (hvx.rf (by decide)) dX8_joins_16 ?_
          refine go_iload_n (pc := 19) rfl dX8_joins_19 ?_
          refine gi_iald (pc := 20) (lo := -2147483648) (hi := 2147483647) (len := 19) hvx (ti_rfl l1) rfl (by omega) (by omega) (fun _ => rfl) dX8_joins_20 (fun v3 v3l v3u v3w => ?_)
          refine gx_ior (pc := 21) dX8_joins_21 (fun v4 v4x => ?_)
          refine gi_iast (pc := 22) (lo := -2147483648) (hi := 2147483647) (len := 19) hvx (ti_rfl l1) (ti_rfl v4) rfl (by omega) (by omega) (fun _ => rfl) (ti_ge (ti_rfl v4)) (ti_le2 (ti_rfl v4)) (by decide) dX8_joins_22 (fun h5 hv5 hv5e => ?_)
          refine gf_iinc (pc := 23) (Nat.le_of_ble_eq_true rfl) rfl (ti_rfl l1) (ti_c (by decide)) (by omega) (by omega) dX8_joins_23 (fun v6 e7 => ?_)
          refine go_lv (lv2 := [(0, .ref 70), (1, .int v6)]) rfl ?_
          refine go_goto (pc := 26) (tgt := 2) (by decide) dX8_joins_26 ?_
          have z8 : (v6 : Int32).toInt = (l1.toInt + 1) := e7
          exact go_lv rfl (ih v6 h5 hv5 (by omega) (by omega) (fun j => by rw [hv5e]; show (if 112 = 112 ∧ j = (l1.toInt).toNat then v4 else hx.2.1 112 j) = _; by_cases q : j = (l1.toInt).toNat; (rw [if_pos ⟨rfl, q⟩, if_pos (by omega), v4x, v2w, v3w, x0, if_neg (by omega), x1 109 _ (by omega), q]); (rw [if_neg (by omega), x0]; by_cases q2 : (j : Int) < l1.toInt; (rw [if_pos q2, if_pos (by omega)]); (rw [if_neg q2, if_neg (by omega)]))) (fun c j q => by rw [hv5e]; show (if c = 112 ∧ j = _ then _ else hx.2.1 c j) = _; rw [if_neg (by omega)]; exact x1 c j q) (by omega))
  refine go_iconst (pc := 0) (v := 0) (by decide) dX8_joins_0 ?_
  refine go_istore_n (pc := 1) (Nat.le_of_ble_eq_true rfl) dX8_joins_1 (go_lv (lv2 := [(0, .ref 70), (1, .int 0)]) rfl ?_)
  have z9 : (0 : Int32).toInt = 0 := (ti_c (v := 0) (a := 0) (by decide))
  exact go_lv rfl ((key 76) 0 h hv (by omega) (by omega) (fun j => by rw [if_neg (by omega)]) (fun _ _ _ => rfl) (by omega))
set_option maxHeartbeats 4000000 in
set_option maxRecDepth 100000 in
theorem s_X8_isWanted_x (l : Launch) (d : Nat) {P : PP} {h : HP} (hv : Iv P h) (a2 : Int32) (a2l : 0 ≤ a2.toInt) (a2u : a2.toInt ≤ 39) (a3 : Int32) (a3l : 1 ≤ a3.toInt) (a3u : a3.toInt ≤ 6) (ckf : CKF h.2.1) : Mt l yX8_isWanted cX8_isWanted 3 (some .boolean) (d + 3) [.ref 70, .int a2, .int a3] h 0 0 (fun r h' => ∃ v : Int32, r = some (.int v) ∧ 0 ≤ v.toInt ∧ v.toInt ≤ 1 ∧ h = h' ∧ (v.toInt = 1 → ¬ sb h.2.1 112 (13 * a2.toInt + a3.toInt))) := by
  refine Mt_iv hv (by decide) (Nat.le_of_ble_eq_true rfl) ?_
  show Go l RX8 cX8_isWanted 3 (g_rm (d + 3) 0 0) "isWanted" (some .boolean) 117 0 0 (fun _ _ => True) (fun r h' => ∃ v : Int32, r = some (.int v) ∧ 0 ≤ v.toInt ∧ v.toInt ≤ 1 ∧ h = h' ∧ (v.toInt = 1 → ¬ sb h.2.1 112 (13 * a2.toInt + a3.toInt))) 0 0 [(0, .ref 70), (1, .int a2), (2, .int a3)] [] h
  have ck : CK P := CK.of hv ckf
  refine go_aload_n (pc := 0) rfl dX8_isWanted_0 ?_
  refine go_iload_n (pc := 1) rfl dX8_isWanted_1 ?_
  refine go_invV (pc := 2) (sl := 0) (s_X8_kindAt l (d + 0) hv a2 (by rw [show (a2 : Int32).toInt = a2.toInt from (ti_rfl a2)]; omega) (by rw [show (a2 : Int32).toInt = a2.toInt from (ti_rfl a2)]; omega)) mL_X8_271 iM_X8_kindAt sM_X8_kindAt (hv.sh rfl) rfl rfl rfl (Nat.le_of_ble_eq_true rfl) (show d + 0 + 2 + 1 ≤ d + 3 by omega) (show 8 + (2 + 11) + 40 * (d + 0 + 2) ≤ 40 * (d + 3) by omega) (g_c0 hv.ln) (Nat.le_of_ble_eq_true rfl) dX8_isWanted_2 ?_
  intro r h1 hq _
  obtain ⟨v3, rfl, v3l, v3u, rfl, f2⟩ := hq
  refine go_iconst (pc := 5) (v := 1) (by decide) dX8_isWanted_5 ?_
  refine gf_icmp_ne (pc := 6) (tgt := 30) (ti_rfl v3) (ti_c (v := 1) (a := 1) (by decide)) (by decide) dX8_isWanted_6 (fun q4 => ?_) (fun q4 => ?_)
  ·
    refine go_iconst (pc := 30) (v := 0) (by decide) dX8_isWanted_30 ?_
    exact gi_zret (pc := 31) (ti_c (v := 0) (a := 0) (by decide)) (by omega) (by omega) ⟨_, rfl, (by rw [show (0 : Int32).toInt = 0 from (ti_c (v := 0) (a := 0) (by decide))]; omega), (by rw [show (0 : Int32).toInt = 0 from (ti_c (v := 0) (a := 0) (by decide))]; omega), rfl, (fun q => absurd q (by decide))⟩ hv dX8_isWanted_31
  ·
    refine go_aload_n (pc := 9) rfl dX8_isWanted_9 ?_
    refine go_aload_n (pc := 10) rfl dX8_isWanted_10 ?_
    refine gi_getF (pc := 11) (q := 84) hv fL_X8_50 rfl (Nat.le_of_ble_eq_true rfl) rfl (hv.rf (by decide)) dX8_isWanted_11 ?_
    refine go_aload_n (pc := 14) rfl dX8_isWanted_14 ?_
    refine go_iload_n (pc := 15) rfl dX8_isWanted_15 ?_
    refine go_invV (pc := 16) (sl := 0) (s_X8_item l (d + 1) hv a2 (by rw [show (a2 : Int32).toInt = a2.toInt from (ti_rfl a2)]; omega) (by rw [show (a2 : Int32).toInt = a2.toInt from (ti_rfl a2)]; omega)) mL_X8_268 iM_X8_item sM_X8_item (hv.sh rfl) rfl rfl rfl (Nat.le_of_ble_eq_true rfl) (show d + 1 + 1 + 1 ≤ d + 3 by omega) (show 8 + (2 + 11) + 40 * (d + 1 + 1) ≤ 40 * (d + 3) by omega) (g_c0 hv.ln) (Nat.le_of_ble_eq_true rfl) dX8_isWanted_16 ?_
    intro r h5 hq _
    obtain ⟨v7, rfl, v7l, v7u, rfl, f6⟩ := hq
    refine gi_iald (pc := 19) (lo := -2) (hi := 4) (len := 260) hv (ti_rfl v7) rfl (by omega) (by omega) (fun _ => rfl) dX8_isWanted_19 (fun v8 v8l v8u v8w => ?_)
    have k9 : 0 ≤ v8.toInt := by
      rw [v8w]
      refine hv.mc ck ?_
      rw [f6]
      have e := f2
      unfold g_kd at e
      omega
    refine go_iload_n (pc := 20) rfl dX8_isWanted_20 ?_
    refine go_invS (pc := 21) (sl := 0) (s_X8_procedurePlace l (d + 1) hv v8 (by rw [show (v8 : Int32).toInt = v8.toInt from (ti_rfl v8)]; omega) (by rw [show (v8 : Int32).toInt = v8.toInt from (ti_rfl v8)]; omega) a3 (by rw [show (a3 : Int32).toInt = a3.toInt from (ti_rfl a3)]; omega) (by rw [show (a3 : Int32).toInt = a3.toInt from (ti_rfl a3)]; omega)) mL_X8_300 iM_X8_procedurePlace rfl rfl (Nat.le_of_ble_eq_true rfl) (show d + 1 + 1 + 1 ≤ d + 3 by omega) (show 8 + (2 + 11) + 40 * (d + 1 + 1) ≤ 40 * (d + 3) by omega) (g_c0 hv.ln) (Nat.le_of_ble_eq_true rfl) dX8_isWanted_21 ?_
    intro r h10 hq _
    obtain ⟨v11, rfl, v11l, v11u, rfl⟩ := hq
    refine go_invV (pc := 24) (sl := 0) (s_X8_isKept_x l (d + 1) hv v11 (by rw [show (v11 : Int32).toInt = v11.toInt from (ti_rfl v11)]; omega) (by rw [show (v11 : Int32).toInt = v11.toInt from (ti_rfl v11)]; omega)) mL_X8_401 iM_X8_isKept sM_X8_isKept (hv.sh rfl) rfl rfl rfl (Nat.le_of_ble_eq_true rfl) (show d + 1 + 1 + 1 ≤ d + 3 by omega) (show 8 + (2 + 11) + 40 * (d + 1 + 1) ≤ 40 * (d + 3) by omega) (g_c0 hv.ln) (Nat.le_of_ble_eq_true rfl) dX8_isWanted_24 ?_
    intro r h12 hq _
    obtain ⟨v14, rfl, v14l, v14u, rfl, f13⟩ := hq
    refine gf_if_ne (pc := 27) (tgt := 32) (ti_rfl v14) (by decide) dX8_isWanted_27 (fun q15 => ?_) (fun q15 => ?_)
    ·
      refine go_aload_n (pc := 32) rfl dX8_isWanted_32 ?_
      refine go_iload_n (pc := 33) rfl dX8_isWanted_33 ?_
      refine go_invV (pc := 34) (sl := 0) (s_X8_isAnyKept l (d + 0) hv a2 (by rw [show (a2 : Int32).toInt = a2.toInt from (ti_rfl a2)]; omega) (by rw [show (a2 : Int32).toInt = a2.toInt from (ti_rfl a2)]; omega)) mL_X8_404 iM_X8_isAnyKept sM_X8_isAnyKept (hv.sh rfl) rfl rfl rfl (Nat.le_of_ble_eq_true rfl) (show d + 0 + 2 + 1 ≤ d + 3 by omega) (show 8 + (3 + 11) + 40 * (d + 0 + 2) ≤ 40 * (d + 3) by omega) (g_c0 hv.ln) (Nat.le_of_ble_eq_true rfl) dX8_isWanted_34 ?_
      intro r h16 hq _
      obtain ⟨v17, rfl, v17l, v17u, rfl⟩ := hq
      refine gf_if_eq (pc := 37) (tgt := 56) (ti_rfl v17) (by decide) dX8_isWanted_37 (fun q18 => ?_) (fun q18 => ?_)
      ·
        refine go_iconst (pc := 56) (v := 0) (by decide) dX8_isWanted_56 ?_
        exact gi_zret (pc := 57) (ti_c (v := 0) (a := 0) (by decide)) (by omega) (by omega) ⟨_, rfl, (by rw [show (0 : Int32).toInt = 0 from (ti_c (v := 0) (a := 0) (by decide))]; omega), (by rw [show (0 : Int32).toInt = 0 from (ti_c (v := 0) (a := 0) (by decide))]; omega), rfl, (fun q => absurd q (by decide))⟩ hv dX8_isWanted_57
      ·
        refine go_aload_n (pc := 40) rfl dX8_isWanted_40 ?_
        refine go_iload_n (pc := 41) rfl dX8_isWanted_41 ?_
        refine go_iload_n (pc := 42) rfl dX8_isWanted_42 ?_
        refine go_invS (pc := 43) (sl := 0) (s_X8_statementPlace_x l (d + 1) hv a2 (by rw [show (a2 : Int32).toInt = a2.toInt from (ti_rfl a2)]; omega) (by rw [show (a2 : Int32).toInt = a2.toInt from (ti_rfl a2)]; omega) a3 (by rw [show (a3 : Int32).toInt = a3.toInt from (ti_rfl a3)]; omega) (by rw [show (a3 : Int32).toInt = a3.toInt from (ti_rfl a3)]; omega)) mL_X8_291 iM_X8_statementPlace rfl rfl (Nat.le_of_ble_eq_true rfl) (show d + 1 + 1 + 1 ≤ d + 3 by omega) (show 8 + (2 + 11) + 40 * (d + 1 + 1) ≤ 40 * (d + 3) by omega) (g_c0 hv.ln) (Nat.le_of_ble_eq_true rfl) dX8_isWanted_43 ?_
        intro r h19 hq _
        obtain ⟨v21, rfl, v21l, v21u, rfl, f20⟩ := hq
        refine go_invV (pc := 46) (sl := 0) (s_X8_isKept_x l (d + 1) hv v21 (by rw [show (v21 : Int32).toInt = v21.toInt from (ti_rfl v21)]; omega) (by rw [show (v21 : Int32).toInt = v21.toInt from (ti_rfl v21)]; omega)) mL_X8_401 iM_X8_isKept sM_X8_isKept (hv.sh rfl) rfl rfl rfl (Nat.le_of_ble_eq_true rfl) (show d + 1 + 1 + 1 ≤ d + 3 by omega) (show 8 + (2 + 11) + 40 * (d + 1 + 1) ≤ 40 * (d + 3) by omega) (g_c0 hv.ln) (Nat.le_of_ble_eq_true rfl) dX8_isWanted_46 ?_
        intro r h22 hq _
        obtain ⟨v24, rfl, v24l, v24u, rfl, f23⟩ := hq
        refine gf_if_ne (pc := 49) (tgt := 56) (ti_rfl v24) (by decide) dX8_isWanted_49 (fun q25 => ?_) (fun q25 => ?_)
        ·
          refine go_iconst (pc := 56) (v := 0) (by decide) dX8_isWanted_56 ?_
          exact gi_zret (pc := 57) (ti_c (v := 0) (a := 0) (by decide)) (by omega) (by omega) ⟨_, rfl, (by rw [show (0 : Int32).toInt = 0 from (ti_c (v := 0) (a := 0) (by decide))]; omega), (by rw [show (0 : Int32).toInt = 0 from (ti_c (v := 0) (a := 0) (by decide))]; omega), rfl, (fun q => absurd q (by decide))⟩ hv dX8_isWanted_57
        ·
          refine go_iconst (pc := 52) (v := 1) (by decide) dX8_isWanted_52 ?_
          refine go_goto (pc := 53) (tgt := 57) (by decide) dX8_isWanted_53 ?_
          exact gi_zret (pc := 57) (ti_c (v := 1) (a := 1) (by decide)) (by omega) (by omega) ⟨_, rfl, (by rw [show (1 : Int32).toInt = 1 from (ti_c (v := 1) (a := 1) (by decide))]; omega), (by rw [show (1 : Int32).toInt = 1 from (ti_c (v := 1) (a := 1) (by decide))]; omega), rfl, (fun _ => by have q := f23.2 (by omega); rw [f20] at q; exact q)⟩ hv dX8_isWanted_57
    ·
      refine go_iconst (pc := 30) (v := 0) (by decide) dX8_isWanted_30 ?_
      exact gi_zret (pc := 31) (ti_c (v := 0) (a := 0) (by decide)) (by omega) (by omega) ⟨_, rfl, (by rw [show (0 : Int32).toInt = 0 from (ti_c (v := 0) (a := 0) (by decide))]; omega), (by rw [show (0 : Int32).toInt = 0 from (ti_c (v := 0) (a := 0) (by decide))]; omega), rfl, (fun q => absurd q (by decide))⟩ hv dX8_isWanted_31
set_option maxHeartbeats 4000000 in
set_option maxRecDepth 100000 in
theorem s_X8_keptFor (l : Launch) (d : Nat) {P : PP} {h : HP} (hv : Iv P h) (a2 : Int32) (a2l : 0 ≤ a2.toInt) (a2u : a2.toInt ≤ 39) (ckf : CKF h.2.1) : Mt l yX8_keptFor cX8_keptFor 6 (some .long) (d + 6) [.ref 70, .int a2] h 0 0 (fun r h' => ∃ v : Int64, r = some (.long v) ∧ Iv (gs P) h') := by
  refine Mt_iv hv (by decide) (Nat.le_of_ble_eq_true rfl) ?_
  show Go l RX8 cX8_keptFor 6 (g_rm (d + 6) 0 0) "keptFor" (some .long) 117 0 0 (fun _ _ => True) (fun r h' => ∃ v : Int64, r = some (.long v) ∧ Iv (gs P) h') 0 0 [(0, .ref 70), (1, .int a2)] [] h
  have key : ∀ n : Nat, (∀ (l1 : Int32) (l2 : Int32) (hx : HP), Iv (gs P) hx → 0 ≤ l1.toInt → l1.toInt ≤ 39 → 0 ≤ l2.toInt → l2.toInt ≤ 19 → (100000000 + (19 - l2.toInt) : Int) < n → Go l RX8 cX8_keptFor 6 (g_rm (d + 6) 0 0) "keptFor" (some .long) 117 0 0 (fun _ _ => True) (fun r h' => ∃ v : Int64, r = some (.long v) ∧ Iv (gs P) h') 0 10 [(0, .ref 70), (1, .int l1), (2, .int l2)] [] hx) ∧ (∀ (l2 : Int32) (hx : HP), Iv (gs P) hx → 0 ≤ l2.toInt → l2.toInt ≤ 1 → (0 ≤ ct hx.2.1 112 ∧ ct hx.2.1 112 ≤ 585) → (10000 * (585 - ct hx.2.1 112) + 10000 * l2.toInt + 5000 : Int) < n → Go l RX8 cX8_keptFor 6 (g_rm (d + 6) 0 0) "keptFor" (some .long) 117 0 0 (fun _ _ => True) (fun r h' => ∃ v : Int64, r = some (.long v) ∧ Iv (gs P) h') 0 48 [(0, .ref 70), (2, .int l2)] [] hx) ∧ (∀ (l2 : Int32) (l3 : Int32) (hx : HP), Iv (gs P) hx → 0 ≤ l2.toInt → l2.toInt ≤ 1 → 0 ≤ l3.toInt → l3.toInt ≤ 240 → (0 ≤ ct hx.2.1 112 ∧ ct hx.2.1 112 ≤ 585) → (10000 * (585 - ct hx.2.1 112) + 10000 * l2.toInt + 6000 + 10 * (240 - l3.toInt) : Int) < n → Go l RX8 cX8_keptFor 6 (g_rm (d + 6) 0 0) "keptFor" (some .long) 117 0 0 (fun _ _ => True) (fun r h' => ∃ v : Int64, r = some (.long v) ∧ Iv (gs P) h') 0 56 [(0, .ref 70), (2, .int l2), (3, .int l3)] [] hx) ∧ (∀ (l3 : Int64) (l5 : Int32) (hx : HP), Iv (gs P) hx → 0 ≤ l5.toInt → l5.toInt ≤ 40 → (100 - l5.toInt : Int) < n → Go l RX8 cX8_keptFor 6 (g_rm (d + 6) 0 0) "keptFor" (some .long) 117 0 0 (fun _ _ => True) (fun r h' => ∃ v : Int64, r = some (.long v) ∧ Iv (gs P) h') 0 137 [(0, .ref 70), (3, .long l3), (5, .int l5)] [] hx) := by
    intro n
    induction n with
    | zero => exact ⟨(by intros; omega), (by intros; omega), (by intros; omega), (by intros; omega)⟩
    | succ n ih =>
      refine ⟨?_, ?_, ?_, ?_⟩
      ·
        intro l1 l2 hx hvx l1l l1u l2l l2u hm
        refine go_iload_n (pc := 10) rfl dX8_keptFor_10 ?_
        refine go_bipush (pc := 11) (v := 19) (by decide) dX8_keptFor_11 ?_
        refine gf_icmp_ge (pc := 13) (tgt := 29) (ti_rfl l2) (ti_c (v := 19) (a := 19) (by decide)) (by decide) dX8_keptFor_13 (fun q1 => ?_) (fun q1 => ?_)
        ·
          refine go_aload_n (pc := 29) rfl dX8_keptFor_29 ?_
          refine go_invV (pc := 30) (sl := 0) (s_X8_empties_x l (d + 4) hvx ) mL_X8_356 iM_X8_empties sM_X8_empties (hvx.sh rfl) rfl rfl rfl (Nat.le_of_ble_eq_true rfl) (show d + 4 + 1 + 1 ≤ d + 6 by omega) (show 8 + (2 + 11) + 40 * (d + 4 + 1) ≤ 40 * (d + 6) by omega) (g_c0 hvx.ln) (Nat.le_of_ble_eq_true rfl) dX8_keptFor_30 ?_
          intro r h2 hq _
          obtain ⟨rfl, hv2, f3, f4⟩ := hq
          refine go_aload_n (pc := 33) rfl dX8_keptFor_33 ?_
          refine go_iload_n (pc := 34) rfl dX8_keptFor_34 ?_
          refine go_invV (pc := 35) (sl := 0) (s_X8_reachAll l (d + 2) hv2 l1 (by rw [show (l1 : Int32).toInt = l1.toInt from (ti_rfl l1)]; omega) (by rw [show (l1 : Int32).toInt = l1.toInt from (ti_rfl l1)]; omega) (EM.hw f3)) mL_X8_372 iM_X8_reachAll sM_X8_reachAll (hv2.sh rfl) rfl rfl rfl (Nat.le_of_ble_eq_true rfl) (show d + 2 + 3 + 1 ≤ d + 6 by omega) (show 8 + (3 + 11) + 40 * (d + 2 + 3) ≤ 40 * (d + 6) by omega) (g_c0 hv2.ln) (Nat.le_of_ble_eq_true rfl) dX8_keptFor_35 ?_
          intro r h5 hq _
          obtain ⟨rfl, hv5, f6⟩ := hq
          refine go_aload_n (pc := 38) rfl dX8_keptFor_38 ?_
          refine go_invV (pc := 39) (sl := 0) (s_X8_goesBack l (d + 0) hv5 f6.1 (CKF.ve (VE.ofgs hv hv5) ckf)) mL_X8_375 iM_X8_goesBack sM_X8_goesBack (hv5.sh rfl) rfl rfl rfl (Nat.le_of_ble_eq_true rfl) (show d + 0 + 5 + 1 ≤ d + 6 by omega) (show 8 + (2 + 11) + 40 * (d + 0 + 5) ≤ 40 * (d + 6) by omega) (g_c0 hv5.ln) (Nat.le_of_ble_eq_true rfl) dX8_keptFor_39 ?_
          intro r h7 hq _
          obtain ⟨rfl, hv7, f8, f9⟩ := hq
          refine go_aload_n (pc := 42) rfl dX8_keptFor_42 ?_
          refine go_invV (pc := 43) (sl := 0) (s_X8_joins_x l (d + 4) hv7 ) mL_X8_407 iM_X8_joins sM_X8_joins (hv7.sh rfl) rfl rfl rfl (Nat.le_of_ble_eq_true rfl) (show d + 4 + 1 + 1 ≤ d + 6 by omega) (show 8 + (2 + 11) + 40 * (d + 4 + 1) ≤ 40 * (d + 6) by omega) (g_c0 hv7.ln) (Nat.le_of_ble_eq_true rfl) dX8_keptFor_43 ?_
          intro r h10 hq _
          obtain ⟨rfl, hv10, f11⟩ := hq
          have ctz := ct_lo h10.2.1 112
          refine go_iconst (pc := 46) (v := 1) (by decide) dX8_keptFor_46 ?_
          refine go_istore_n (pc := 47) (Nat.le_of_ble_eq_true rfl) dX8_keptFor_47 (go_lv (lv2 := [(0, .ref 70), (1, .int l1), (2, .int 1)]) rfl ?_)
          have z12 : (1 : Int32).toInt = 1 := (ti_c (v := 1) (a := 1) (by decide))
          exact go_lv rfl (ih.2.1 1 h10 hv10 (by omega) (by omega) ⟨ct_lo _ _, ct_hi _ _⟩ (by omega))
        ·
          refine go_aload_n (pc := 16) rfl dX8_keptFor_16 ?_
          refine gi_getF (pc := 17) (q := 112) hvx fL_X8_136 rfl (Nat.le_of_ble_eq_true rfl) rfl (hvx.rf (by decide)) dX8_keptFor_17 ?_
          refine go_iload_n (pc := 20) rfl dX8_keptFor_20 ?_
          refine go_iconst (pc := 21) (v := 0) (by decide) dX8_keptFor_21 ?_
          refine gi_iast (pc := 22) (lo := -2147483648) (hi := 2147483647) (len := 19) hvx (ti_rfl l2) (ti_c (v := 0) (a := 0) (by decide)) rfl (by omega) (by omega) (fun _ => rfl) (ti_ge (ti_c (v := 0) (a := 0) (by decide))) (ti_le2 (ti_c (v := 0) (a := 0) (by decide))) (by decide) dX8_keptFor_22 (fun h13 hv13 hv13e => ?_)
          refine gf_iinc (pc := 23) (Nat.le_of_ble_eq_true rfl) rfl (ti_rfl l2) (ti_c (by decide)) (by omega) (by omega) dX8_keptFor_23 (fun v14 e15 => ?_)
          refine go_lv (lv2 := [(0, .ref 70), (1, .int l1), (2, .int v14)]) rfl ?_
          refine go_goto (pc := 26) (tgt := 10) (by decide) dX8_keptFor_26 ?_
          have z16 : (v14 : Int32).toInt = (l2.toInt + 1) := e15
          exact go_lv rfl (ih.1 l1 v14 h13 hv13 (by omega) (by omega) (by omega) (by omega) (by omega))
      ·
        intro l2 hx hvx l2l l2u x0 hm
        refine go_iload_n (pc := 48) rfl dX8_keptFor_48 ?_
        refine gf_if_eq (pc := 49) (tgt := 132) (ti_rfl l2) (by decide) dX8_keptFor_49 (fun q17 => ?_) (fun q17 => ?_)
        ·
          refine go_lconst (pc := 132) (v := 0) (by decide) dX8_keptFor_132 ?_
          refine go_lstore_n (pc := 133) (Nat.le_of_ble_eq_true rfl) dX8_keptFor_133 (go_lv (lv2 := [(0, .ref 70), (2, .int l2), (3, .long 0)]) rfl ?_)
          refine go_iconst (pc := 134) (v := 0) (by decide) dX8_keptFor_134 ?_
          refine go_istore (pc := 135) (Nat.le_of_ble_eq_true rfl) dX8_keptFor_135 (go_lv (lv2 := [(0, .ref 70), (2, .int l2), (3, .long 0), (5, .int 0)]) rfl ?_)
          have z18 : (0 : Int32).toInt = 0 := (ti_c (v := 0) (a := 0) (by decide))
          exact go_lv rfl (ih.2.2.2 0 0 hx hvx (by omega) (by omega) (by omega))
        ·
          refine go_iconst (pc := 52) (v := 0) (by decide) dX8_keptFor_52 ?_
          refine go_istore_n (pc := 53) (Nat.le_of_ble_eq_true rfl) dX8_keptFor_53 (go_lv (lv2 := [(0, .ref 70), (2, .int 0)]) rfl ?_)
          refine go_iconst (pc := 54) (v := 0) (by decide) dX8_keptFor_54 ?_
          refine go_istore_n (pc := 55) (Nat.le_of_ble_eq_true rfl) dX8_keptFor_55 (go_lv (lv2 := [(0, .ref 70), (2, .int 0), (3, .int 0)]) rfl ?_)
          have z19 : (0 : Int32).toInt = 0 := (ti_c (v := 0) (a := 0) (by decide))
          have z20 : (0 : Int32).toInt = 0 := (ti_c (v := 0) (a := 0) (by decide))
          exact go_lv rfl (ih.2.2.1 0 0 hx hvx (by omega) (by omega) (by omega) (by omega) ⟨ct_lo _ _, ct_hi _ _⟩ (by omega))
      ·
        intro l2 l3 hx hvx l2l l2u l3l l3u x0 hm
        refine go_iload_n (pc := 56) rfl dX8_keptFor_56 ?_
        refine go_bipush (pc := 57) (v := 6) (by decide) dX8_keptFor_57 ?_
        refine go_aload_n (pc := 59) rfl dX8_keptFor_59 ?_
        refine gi_getF (pc := 60) (q := 75) hvx fL_X8_23 rfl (Nat.le_of_ble_eq_true rfl) rfl (hvx.rf (by decide)) dX8_keptFor_60 ?_
        refine go_aload_n (pc := 63) rfl dX8_keptFor_63 ?_
        refine gi_get (pc := 64) (lo := 0) (hi := 1) hvx fL_X8_228 rfl (Nat.le_of_ble_eq_true rfl) rfl rfl dX8_keptFor_64 (fun v21 v21l v21u v21w => ?_)
        refine gi_iald (pc := 67) (lo := 0) (hi := 40) (len := 2) hvx (ti_rfl v21) rfl (by omega) (by omega) (fun _ => rfl) dX8_keptFor_67 (fun v22 v22l v22u v22w => ?_)
        refine gf_imul (pc := 68) (ti_c (v := 6) (a := 6) (by decide)) (ti_rfl v22) (by omega) (by omega) dX8_keptFor_68 (fun v23 e24 => ?_)
        refine gf_icmp_ge (pc := 69) (tgt := 129) (ti_rfl l3) e24 (by decide) dX8_keptFor_69 (fun q25 => ?_) (fun q25 => ?_)
        ·
          refine go_goto (pc := 129) (tgt := 48) (by decide) dX8_keptFor_129 ?_
          exact go_lv rfl (ih.2.1 l2 hx hvx (by omega) (by omega) ⟨ct_lo _ _, ct_hi _ _⟩ (by omega))
        ·
          refine go_aload_n (pc := 72) rfl dX8_keptFor_72 ?_
          refine go_iload_n (pc := 73) rfl dX8_keptFor_73 ?_
          refine go_bipush (pc := 74) (v := 6) (by decide) dX8_keptFor_74 ?_
          refine gf_idiv (pc := 76) (ti_rfl l3) (ti_c (v := 6) (a := 6) (by decide)) (by omega) (by omega) dX8_keptFor_76 (fun v26 e27 => ?_)
          refine go_iconst (pc := 77) (v := 1) (by decide) dX8_keptFor_77 ?_
          refine go_iload_n (pc := 78) rfl dX8_keptFor_78 ?_
          refine go_bipush (pc := 79) (v := 6) (by decide) dX8_keptFor_79 ?_
          refine gf_irem (pc := 81) (ti_rfl l3) (ti_c (v := 6) (a := 6) (by decide)) (by omega) (by omega) dX8_keptFor_81 (fun v28 e29 => ?_)
          refine gf_iadd (pc := 82) (ti_c (v := 1) (a := 1) (by decide)) e29 (by omega) (by omega) dX8_keptFor_82 (fun v30 e31 => ?_)
          refine go_invV (pc := 83) (sl := 0) (s_X8_isWanted_x l (d + 2) hvx v26 (by rw [show (v26 : Int32).toInt = (l3.toInt / 6) from e27]; omega) (by rw [show (v26 : Int32).toInt = (l3.toInt / 6) from e27]; omega) v30 (by rw [show (v30 : Int32).toInt = (1 + (l3.toInt % 6)) from e31]; omega) (by rw [show (v30 : Int32).toInt = (1 + (l3.toInt % 6)) from e31]; omega) (CKF.ve (VE.ofgs hv hvx) ckf)) mL_X8_410 iM_X8_isWanted sM_X8_isWanted (hvx.sh rfl) rfl rfl rfl (Nat.le_of_ble_eq_true rfl) (show d + 2 + 3 + 1 ≤ d + 6 by omega) (show 8 + (3 + 11) + 40 * (d + 2 + 3) ≤ 40 * (d + 6) by omega) (g_c0 hvx.ln) (Nat.le_of_ble_eq_true rfl) dX8_keptFor_83 ?_
          intro r h32 hq _
          obtain ⟨v34, rfl, v34l, v34u, rfl, f33⟩ := hq
          try rw [show (v26 : Int32).toInt = (l3.toInt / 6) from e27] at f33
          try rw [show (v30 : Int32).toInt = (1 + (l3.toInt % 6)) from e31] at f33
          refine gf_if_ne (pc := 86) (tgt := 92) (ti_rfl v34) (by decide) dX8_keptFor_86 (fun q35 => ?_) (fun q35 => ?_)
          ·
            refine go_aload_n (pc := 92) rfl dX8_keptFor_92 ?_
            refine go_invV (pc := 93) (sl := 0) (s_X8_empties_x l (d + 4) hvx ) mL_X8_356 iM_X8_empties sM_X8_empties (hvx.sh rfl) rfl rfl rfl (Nat.le_of_ble_eq_true rfl) (show d + 4 + 1 + 1 ≤ d + 6 by omega) (show 8 + (2 + 11) + 40 * (d + 4 + 1) ≤ 40 * (d + 6) by omega) (g_c0 hvx.ln) (Nat.le_of_ble_eq_true rfl) dX8_keptFor_93 ?_
            intro r h36 hq _
            obtain ⟨rfl, hv36, f37, f38⟩ := hq
            refine go_aload_n (pc := 96) rfl dX8_keptFor_96 ?_
            refine go_iload_n (pc := 97) rfl dX8_keptFor_97 ?_
            refine go_bipush (pc := 98) (v := 6) (by decide) dX8_keptFor_98 ?_
            refine gf_idiv (pc := 100) (ti_rfl l3) (ti_c (v := 6) (a := 6) (by decide)) (by omega) (by omega) dX8_keptFor_100 (fun v39 e40 => ?_)
            refine go_iconst (pc := 101) (v := 1) (by decide) dX8_keptFor_101 ?_
            refine go_iload_n (pc := 102) rfl dX8_keptFor_102 ?_
            refine go_bipush (pc := 103) (v := 6) (by decide) dX8_keptFor_103 ?_
            refine gf_irem (pc := 105) (ti_rfl l3) (ti_c (v := 6) (a := 6) (by decide)) (by omega) (by omega) dX8_keptFor_105 (fun v41 e42 => ?_)
            refine gf_iadd (pc := 106) (ti_c (v := 1) (a := 1) (by decide)) e42 (by omega) (by omega) dX8_keptFor_106 (fun v43 e44 => ?_)
            refine go_invS (pc := 107) (sl := 0) (s_X8_statementPlace_x l (d + 4) hv36 v39 (by rw [show (v39 : Int32).toInt = (l3.toInt / 6) from e40]; omega) (by rw [show (v39 : Int32).toInt = (l3.toInt / 6) from e40]; omega) v43 (by rw [show (v43 : Int32).toInt = (1 + (l3.toInt % 6)) from e44]; omega) (by rw [show (v43 : Int32).toInt = (1 + (l3.toInt % 6)) from e44]; omega)) mL_X8_291 iM_X8_statementPlace rfl rfl (Nat.le_of_ble_eq_true rfl) (show d + 4 + 1 + 1 ≤ d + 6 by omega) (show 8 + (2 + 11) + 40 * (d + 4 + 1) ≤ 40 * (d + 6) by omega) (g_c0 hv36.ln) (Nat.le_of_ble_eq_true rfl) dX8_keptFor_107 ?_
            intro r h45 hq _
            obtain ⟨v47, rfl, v47l, v47u, rfl, f46⟩ := hq
            try rw [show (v39 : Int32).toInt = (l3.toInt / 6) from e40] at f46
            try rw [show (v43 : Int32).toInt = (1 + (l3.toInt % 6)) from e44] at f46
            refine go_invV (pc := 110) (sl := 0) (s_X8_reach l (d + 3) hv36 v47 (by rw [show (v47 : Int32).toInt = v47.toInt from (ti_rfl v47)]; omega) (by rw [show (v47 : Int32).toInt = v47.toInt from (ti_rfl v47)]; omega) (EM.hw f37)) mL_X8_347 iM_X8_reach sM_X8_reach (hv36.sh rfl) rfl rfl rfl (Nat.le_of_ble_eq_true rfl) (show d + 3 + 2 + 1 ≤ d + 6 by omega) (show 8 + (2 + 11) + 40 * (d + 3 + 2) ≤ 40 * (d + 6) by omega) (g_c0 hv36.ln) (Nat.le_of_ble_eq_true rfl) dX8_keptFor_110 ?_
            intro r h48 hq _
            obtain ⟨rfl, hv48, f49⟩ := hq
            refine go_aload_n (pc := 113) rfl dX8_keptFor_113 ?_
            refine go_invV (pc := 114) (sl := 0) (s_X8_goesBack l (d + 0) hv48 (RC.ph f49 (by omega) (by omega) (EM.hw f37)).1 (CKF.ve (VE.ofgs hv hv48) ckf)) mL_X8_375 iM_X8_goesBack sM_X8_goesBack (hv48.sh rfl) rfl rfl rfl (Nat.le_of_ble_eq_true rfl) (show d + 0 + 5 + 1 ≤ d + 6 by omega) (show 8 + (2 + 11) + 40 * (d + 0 + 5) ≤ 40 * (d + 6) by omega) (g_c0 hv48.ln) (Nat.le_of_ble_eq_true rfl) dX8_keptFor_114 ?_
            intro r h50 hq _
            obtain ⟨rfl, hv50, f51, f52⟩ := hq
            refine go_aload_n (pc := 117) rfl dX8_keptFor_117 ?_
            refine go_invV (pc := 118) (sl := 0) (s_X8_joins_x l (d + 4) hv50 ) mL_X8_407 iM_X8_joins sM_X8_joins (hv50.sh rfl) rfl rfl rfl (Nat.le_of_ble_eq_true rfl) (show d + 4 + 1 + 1 ≤ d + 6 by omega) (show 8 + (2 + 11) + 40 * (d + 4 + 1) ≤ 40 * (d + 6) by omega) (g_c0 hv50.ln) (Nat.le_of_ble_eq_true rfl) dX8_keptFor_118 ?_
            intro r h53 hq _
            obtain ⟨rfl, hv53, f54⟩ := hq
            have nw : ¬ sb hx.2.1 112 (13 * (l3.toInt / 6) + (1 + l3.toInt % 6)) := f33 (by omega)
            rw [← f46] at nw
            have stp := kept_step (by omega) (by omega) f38 f49 f51 f52 f54 nw
            have sth := ct_hi h53.2.1 112
            refine go_iconst (pc := 121) (v := 1) (by decide) dX8_keptFor_121 ?_
            refine go_istore_n (pc := 122) (Nat.le_of_ble_eq_true rfl) dX8_keptFor_122 (go_lv (lv2 := [(0, .ref 70), (2, .int 1), (3, .int l3)]) rfl ?_)
            refine gf_iinc (pc := 123) (Nat.le_of_ble_eq_true rfl) rfl (ti_rfl l3) (ti_c (by decide)) (by omega) (by omega) dX8_keptFor_123 (fun v55 e56 => ?_)
            refine go_lv (lv2 := [(0, .ref 70), (2, .int 1), (3, .int v55)]) rfl ?_
            refine go_goto (pc := 126) (tgt := 56) (by decide) dX8_keptFor_126 ?_
            have z57 : (1 : Int32).toInt = 1 := (ti_c (v := 1) (a := 1) (by decide))
            have z58 : (v55 : Int32).toInt = (l3.toInt + 1) := e56
            exact go_lv rfl (ih.2.2.1 1 v55 h53 hv53 (by omega) (by omega) (by omega) (by omega) ⟨ct_lo _ _, ct_hi _ _⟩ (by omega))
          ·
            refine go_goto (pc := 89) (tgt := 123) (by decide) dX8_keptFor_89 ?_
            refine gf_iinc (pc := 123) (Nat.le_of_ble_eq_true rfl) rfl (ti_rfl l3) (ti_c (by decide)) (by omega) (by omega) dX8_keptFor_123 (fun v59 e60 => ?_)
            refine go_lv (lv2 := [(0, .ref 70), (2, .int l2), (3, .int v59)]) rfl ?_
            refine go_goto (pc := 126) (tgt := 56) (by decide) dX8_keptFor_126 ?_
            have z61 : (v59 : Int32).toInt = (l3.toInt + 1) := e60
            exact go_lv rfl (ih.2.2.1 l2 v59 hx hvx (by omega) (by omega) (by omega) (by omega) ⟨ct_lo _ _, ct_hi _ _⟩ (by omega))
      ·
        intro l3 l5 hx hvx l5l l5u hm
        refine go_iload (pc := 137) rfl dX8_keptFor_137 ?_
        refine go_aload_n (pc := 139) rfl dX8_keptFor_139 ?_
        refine gi_getF (pc := 140) (q := 75) hvx fL_X8_23 rfl (Nat.le_of_ble_eq_true rfl) rfl (hvx.rf (by decide)) dX8_keptFor_140 ?_
        refine go_aload_n (pc := 143) rfl dX8_keptFor_143 ?_
        refine gi_get (pc := 144) (lo := 0) (hi := 1) hvx fL_X8_228 rfl (Nat.le_of_ble_eq_true rfl) rfl rfl dX8_keptFor_144 (fun v62 v62l v62u v62w => ?_)
        refine gi_iald (pc := 147) (lo := 0) (hi := 40) (len := 2) hvx (ti_rfl v62) rfl (by omega) (by omega) (fun _ => rfl) dX8_keptFor_147 (fun v63 v63l v63u v63w => ?_)
        refine gf_icmp_ge (pc := 148) (tgt := 173) (ti_rfl l5) (ti_rfl v63) (by decide) dX8_keptFor_148 (fun q64 => ?_) (fun q64 => ?_)
        ·
          refine go_lload_n (pc := 173) rfl dX8_keptFor_173 ?_
          exact gi_lret (pc := 174) ⟨_, rfl, hvx⟩ hvx dX8_keptFor_174
        ·
          refine go_aload_n (pc := 151) rfl dX8_keptFor_151 ?_
          refine go_iload (pc := 152) rfl dX8_keptFor_152 ?_
          refine go_invV (pc := 154) (sl := 0) (s_X8_isAnyKept l (d + 3) hvx l5 (by rw [show (l5 : Int32).toInt = l5.toInt from (ti_rfl l5)]; omega) (by rw [show (l5 : Int32).toInt = l5.toInt from (ti_rfl l5)]; omega)) mL_X8_404 iM_X8_isAnyKept sM_X8_isAnyKept (hvx.sh rfl) rfl rfl rfl (Nat.le_of_ble_eq_true rfl) (show d + 3 + 2 + 1 ≤ d + 6 by omega) (show 8 + (3 + 11) + 40 * (d + 3 + 2) ≤ 40 * (d + 6) by omega) (g_c0 hvx.ln) (Nat.le_of_ble_eq_true rfl) dX8_keptFor_154 ?_
          intro r h65 hq _
          obtain ⟨v66, rfl, v66l, v66u, rfl⟩ := hq
          refine gf_if_eq (pc := 157) (tgt := 167) (ti_rfl v66) (by decide) dX8_keptFor_157 (fun q67 => ?_) (fun q67 => ?_)
          ·
            refine gf_iinc (pc := 167) (Nat.le_of_ble_eq_true rfl) rfl (ti_rfl l5) (ti_c (by decide)) (by omega) (by omega) dX8_keptFor_167 (fun v68 e69 => ?_)
            refine go_lv (lv2 := [(0, .ref 70), (3, .long l3), (5, .int v68)]) rfl ?_
            refine go_goto (pc := 170) (tgt := 137) (by decide) dX8_keptFor_170 ?_
            have z70 : (v68 : Int32).toInt = (l5.toInt + 1) := e69
            exact go_lv rfl (ih.2.2.2 l3 v68 hx hvx (by omega) (by omega) (by omega))
          ·
            refine go_lload_n (pc := 160) rfl dX8_keptFor_160 ?_
            refine go_lconst (pc := 161) (v := 1) (by decide) dX8_keptFor_161 ?_
            refine go_iload (pc := 162) rfl dX8_keptFor_162 ?_
            refine gu_lshl (pc := 164) dX8_keptFor_164 (fun v71 => ?_)
            refine gu_lor (pc := 165) dX8_keptFor_165 (fun v72 => ?_)
            refine go_lstore_n (pc := 166) (Nat.le_of_ble_eq_true rfl) dX8_keptFor_166 (go_lv (lv2 := [(0, .ref 70), (3, .long v72), (5, .int l5)]) rfl ?_)
            refine gf_iinc (pc := 167) (Nat.le_of_ble_eq_true rfl) rfl (ti_rfl l5) (ti_c (by decide)) (by omega) (by omega) dX8_keptFor_167 (fun v73 e74 => ?_)
            refine go_lv (lv2 := [(0, .ref 70), (3, .long v72), (5, .int v73)]) rfl ?_
            refine go_goto (pc := 170) (tgt := 137) (by decide) dX8_keptFor_170 ?_
            have z75 : (v73 : Int32).toInt = (l5.toInt + 1) := e74
            exact go_lv rfl (ih.2.2.2 v72 v73 hx hvx (by omega) (by omega) (by omega))
  refine go_aload_n (pc := 0) rfl dX8_keptFor_0 ?_
  refine go_aload_n (pc := 1) rfl dX8_keptFor_1 ?_
  refine gi_get (pc := 2) (lo := 0) (hi := 1) hv fL_X8_228 rfl (Nat.le_of_ble_eq_true rfl) rfl rfl dX8_keptFor_2 (fun v76 v76l v76u v76w => ?_)
  refine gi_putS (pc := 5) hv v76w (fP_X8_187 _) dX8_keptFor_5 (fun h77 hv77 hv77e => ?_)
  refine go_iconst (pc := 8) (v := 0) (by decide) dX8_keptFor_8 ?_
  refine go_istore_n (pc := 9) (Nat.le_of_ble_eq_true rfl) dX8_keptFor_9 (go_lv (lv2 := [(0, .ref 70), (1, .int a2), (2, .int 0)]) rfl ?_)
  have z78 : (0 : Int32).toInt = 0 := (ti_c (v := 0) (a := 0) (by decide))
  exact go_lv rfl ((key 200000001).1 a2 0 h77 hv77 (by omega) (by omega) (by omega) (by omega) (by omega))
set_option maxHeartbeats 4000000 in
set_option maxRecDepth 100000 in
theorem s_X8_kept (l : Launch) (d : Nat) {P : PP} {h : HP} (hv : Iv P h) (a2 : Int32) (ckf : CKF h.2.1) : Mt l yX8_kept cX8_kept 2 (some .long) (d + 7) [.ref 70, .int a2] h 0 0 (fun r h' => ∃ v : Int64, r = some (.long v) ∧ (∃ Q : PP, Iv Q h' ∧ SQ P Q)) := by
  refine Mt_iv hv (by decide) (Nat.le_of_ble_eq_true rfl) ?_
  show Go l RX8 cX8_kept 2 (g_rm (d + 7) 0 0) "kept" (some .long) 117 0 0 (fun _ _ => True) (fun r h' => ∃ v : Int64, r = some (.long v) ∧ (∃ Q : PP, Iv Q h' ∧ SQ P Q)) 0 0 [(0, .ref 70), (1, .int a2)] [] h
  refine go_aload_n (pc := 0) rfl dX8_kept_0 ?_
  refine go_iload_n (pc := 1) rfl dX8_kept_1 ?_
  refine go_invV (pc := 2) (sl := 0) (s_X8_isStatement l (d + 4) hv a2) mL_X8_389 iM_X8_isStatement sM_X8_isStatement (hv.sh rfl) rfl rfl rfl (Nat.le_of_ble_eq_true rfl) (show d + 4 + 2 + 1 ≤ d + 7 by omega) (show 8 + (2 + 11) + 40 * (d + 4 + 2) ≤ 40 * (d + 7) by omega) (g_c0 hv.ln) (Nat.le_of_ble_eq_true rfl) dX8_kept_2 ?_
  intro r h1 hq _
  obtain ⟨v2, rfl, v2l, v2u, rfl, f3⟩ := hq
  refine gf_if_eq (pc := 5) (tgt := 16) (ti_rfl v2) (by decide) dX8_kept_5 (fun q4 => ?_) (fun q4 => ?_)
  ·
    refine go_ldc2 (pc := 16) kL_X8_329 dX8_kept_16 ?_
    exact gi_lret (pc := 19) ⟨_, rfl, ⟨_, hv, (SQ.rfl _)⟩⟩ hv dX8_kept_19
  ·
    refine go_aload_n (pc := 8) rfl dX8_kept_8 ?_
    refine go_iload_n (pc := 9) rfl dX8_kept_9 ?_
    refine go_invV (pc := 10) (sl := 0) (s_X8_keptFor l (d + 0) hv a2 (by rw [show (a2 : Int32).toInt = a2.toInt from (ti_rfl a2)]; omega) (by rw [show (a2 : Int32).toInt = a2.toInt from (ti_rfl a2)]; omega) ckf) mL_X8_413 iM_X8_keptFor sM_X8_keptFor (hv.sh rfl) rfl rfl rfl (Nat.le_of_ble_eq_true rfl) (show d + 0 + 6 + 1 ≤ d + 7 by omega) (show 8 + (6 + 11) + 40 * (d + 0 + 6) ≤ 40 * (d + 7) by omega) (g_c0 hv.ln) (Nat.le_of_ble_eq_true rfl) dX8_kept_10 ?_
    intro r h5 hq _
    obtain ⟨v6, rfl, hv5⟩ := hq
    refine go_goto (pc := 13) (tgt := 19) (by decide) dX8_kept_13 ?_
    exact gi_lret (pc := 19) ⟨_, rfl, ⟨_, hv5, (SQ.ofgs _)⟩⟩ hv5 dX8_kept_19
