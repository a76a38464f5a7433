/-! what stands on all rows of ways: sets that shrink -/
abbrev LN : Type := Nat → Nat → Int64
def sub (a b : Int64) : Prop := ∀ j, j < 64 → a.toBitVec.getLsbD j = true → b.toBitVec.getLsbD j = true
theorem sub_or {a b : Int64} (h : sub a b) : a ||| b = b := by
  apply Int64.toBitVec_inj.mp
  apply BitVec.eq_of_getLsbD_eq
  intro j hj
  rw [Int64.toBitVec_or, BitVec.getLsbD_or]
  cases q : a.toBitVec.getLsbD j
  · rw [Bool.false_or]
  · rw [h j hj q]; rfl
theorem sub_un {a b : Int64} (h : sub a b) : un a ≤ un b := by
  have := un_or a b
  rw [sub_or h] at this
  exact this
theorem sub_rfl (a : Int64) : sub a a := fun _ _ q => q
theorem sub_tr {a b c : Int64} (h : sub a b) (g : sub b c) : sub a c := fun j hj q => g j hj (h j hj q)
theorem sub_all (a : Int64) : sub a (-1) := fun j hj _ => by
  have e : (-1 : Int64).toBitVec = BitVec.allOnes 64 := by decide
  rw [e, BitVec.getLsbD_allOnes]
  simp [hj]
theorem sub_and {a b c d : Int64} (h : sub a b) (g : sub c d) : sub (a &&& c) (b &&& d) := fun j hj q => by
  rw [Int64.toBitVec_and, BitVec.getLsbD_and, Bool.and_eq_true] at *
  exact ⟨h j hj q.1, g j hj q.2⟩
theorem sub_orr {a b c : Int64} (h : sub a b) : sub (a ||| c) (b ||| c) := fun j hj q => by
  rw [Int64.toBitVec_or, BitVec.getLsbD_or, Bool.or_eq_true] at *
  rcases q with q | q
  · exact Or.inl (h j hj q)
  · exact Or.inr q
def oa (L : LN) (t : Int) : Int64 := if t = -1 then 0 else L 106 t.toNat
def nw (F : FN) (L : LN) (S s : Int) : Int64 := (if wo F S s 1 = -2 then oa L (wo F S s 0) else oa L (wo F S s 0) &&& oa L (wo F S s 1)) ||| (1 <<< ((Int32.ofNat s.toNat).toInt64 &&& 63))
def SH (F : FN) (L : LN) (S : Int) : Prop := ∀ s, 0 ≤ s → s < V F 75 S → sub (nw F L S s) (L 106 s.toNat)
def sU (L : LN) : Nat → Nat
  | 0 => 0
  | n + 1 => sU L n + (L 106 n).toBitVec.toNat
def uu (L : LN) : Int := (sU L 40 : Int)
theorem sU_le (L : LN) (n : Nat) : sU L n ≤ n * 18446744073709551616 := by
  induction n with
  | zero => exact Nat.le_refl _
  | succ n ih =>
    show sU L n + (L 106 n).toBitVec.toNat ≤ _
    have := (L 106 n).toBitVec.isLt
    omega
theorem uu_hi (L : LN) : 0 ≤ uu L ∧ uu L ≤ 40 * 18446744073709551616 := by
  have := sU_le L 40
  unfold uu
  omega
theorem oa_mono {L M : LN} (h : ∀ j, sub (M 106 j) (L 106 j)) (t : Int) : sub (oa M t) (oa L t) := by
  unfold oa
  split
  · exact sub_rfl _
  · exact h _
theorem nw_mono {F : FN} {L M : LN} {S : Int} (h : ∀ j, sub (M 106 j) (L 106 j)) (s : Int) : sub (nw F M S s) (nw F L S s) := by
  unfold nw
  refine sub_orr ?_
  split
  · exact oa_mono h _
  · exact sub_and (oa_mono h _) (oa_mono h _)
theorem SH.step {F : FN} {L : LN} {S s : Int} {v : Int64} (h0 : 0 ≤ s) (h1 : s < V F 75 S) (h2 : s < 40) (h : SH F L S) (hv : v = nw F L S s) :
    let M : LN := fun p q => if p = 106 ∧ q = s.toNat then v else L p q
    SH F M S ∧ uu M ≤ uu L ∧ (¬ v = L 106 s.toNat → uu M + 1 ≤ uu L) := by
  intro M
  have em : ∀ j, j ≠ s.toNat → M 106 j = L 106 j := fun j q => by
    show (if 106 = 106 ∧ j = s.toNat then v else L 106 j) = _
    rw [if_neg (by omega)]
  have es : M 106 s.toNat = v := by
    show (if 106 = 106 ∧ s.toNat = s.toNat then v else L 106 s.toNat) = _
    rw [if_pos ⟨rfl, rfl⟩]
  have hsub : ∀ j, sub (M 106 j) (L 106 j) := fun j => by
    by_cases q : j = s.toNat
    · rw [q, es, hv]; exact h s h0 h1
    · rw [em j q]; exact sub_rfl _
  have hs2 : sub v (L 106 s.toNat) := by rw [hv]; exact h s h0 h1
  have us := sub_un hs2
  have sum : ∀ n, (n ≤ s.toNat → sU M n = sU L n) ∧ (s.toNat < n → sU M n + (L 106 s.toNat).toBitVec.toNat = sU L n + v.toBitVec.toNat) := fun n => by
    induction n with
    | zero => exact ⟨fun _ => rfl, fun q => by omega⟩
    | succ n ih =>
      refine ⟨fun q => ?_, fun q => ?_⟩
      · show sU M n + (M 106 n).toBitVec.toNat = sU L n + (L 106 n).toBitVec.toNat
        rw [ih.1 (by omega), em n (by omega)]
      · show sU M n + (M 106 n).toBitVec.toNat + _ = sU L n + (L 106 n).toBitVec.toNat + _
        by_cases w : n = s.toNat
        · rw [w, es, ← w, ih.1 (by omega)]; omega
        · rw [em n w]
          have := ih.2 (by omega)
          omega
  have s40 := (sum 40).2 (by omega)
  unfold un at us
  refine ⟨fun t a b => ?_, by unfold uu; omega, fun q => ?_⟩
  · have m := nw_mono (F := F) (S := S) hsub t
    by_cases w : t = s
    · rw [w, es, hv]
      rw [w] at m
      exact m
    · rw [em _ (by omega)]
      exact sub_tr m (h t a b)
  · have ne : ¬ un v = un (L 106 s.toNat) := fun z => q (un_inj z)
    unfold un at ne
    unfold uu
    omega
theorem SH.init {F : FN} {L : LN} {S : Int} (h : ∀ j : Nat, (j : Int) < 40 → L 106 j = -1) (hn : V F 75 S ≤ 40) : SH F L S := fun s a b => by
  rw [h _ (by omega)]
  exact sub_all _
theorem wy_ve {F G : FN} (h : VE F G) (S s e : Int) : wy G S s e = wy F S s e := by
  unfold wy
  rw [h.v (c := 77) (by omega) (by omega), h.v (c := 93) (by omega) (by omega), h.v (c := 95) (by omega) (by omega), h.v (c := 96) (by omega) (by omega), h.v (c := 97) (by omega) (by omega), h.v (c := 98) (by omega) (by omega), h.v (c := 84) (by omega) (by omega), h.v (c := 101) (by omega) (by omega), h.v (c := 102) (by omega) (by omega)]
theorem wo_ve {F G : FN} (h : VE F G) (S s e : Int) : wo G S s e = wo F S s e := by
  unfold wo
  rw [wy_ve h, h.v (c := 77) (by omega) (by omega), h.v (c := 93) (by omega) (by omega), h.v (c := 95) (by omega) (by omega), h.v (c := 98) (by omega) (by omega), h.v (c := 84) (by omega) (by omega), h.v (c := 102) (by omega) (by omega)]
/-- tests and loops lead within -/
def WI (F : FN) (S : Int) : Prop := ∀ k, 0 ≤ k → k < V F 75 S → (V F 77 (V F 93 (40 * S + k)) = 2 ∨ V F 77 (V F 93 (40 * S + k)) = 3) → -1 ≤ V F 96 (40 * S + k)
theorem WI.wo0 {P : PP} {h : HP} {S k : Int} (hv : Iv P h) (w : WI h.2.1 S) (h0 : 0 ≤ k) (h1 : k < V h.2.1 75 S) : -1 ≤ wo h.2.1 S k 0 := by
  have r5 : -1 ≤ V h.2.1 95 (40 * S + k) := (hv.2.1 95 _).1
  have r8 : -1 ≤ V h.2.1 98 (40 * S + k) := (hv.2.1 98 _).1
  have wk := w k h0 h1
  unfold wo wy
  (repeat' split) <;> omega
theorem wo1_ge {P : PP} {h : HP} {S k : Int} (hv : Iv P h) (d : V h.2.1 77 (V h.2.1 93 (40 * S + k)) = 2 ∨ V h.2.1 77 (V h.2.1 93 (40 * S + k)) = 3 ∨ V h.2.1 77 (V h.2.1 93 (40 * S + k)) = 4 ∨ V h.2.1 77 (V h.2.1 93 (40 * S + k)) = 5 ∨ (V h.2.1 77 (V h.2.1 93 (40 * S + k)) = 1 ∧ V h.2.1 102 (5 * S + V h.2.1 84 (V h.2.1 93 (40 * S + k))) = 1)) : -1 ≤ wo h.2.1 S k 1 := by
  have r5 : -1 ≤ V h.2.1 95 (40 * S + k) := (hv.2.1 95 _).1
  have r7 : -1 ≤ V h.2.1 97 (40 * S + k) := (hv.2.1 97 _).1
  have r8 : -1 ≤ V h.2.1 98 (40 * S + k) := (hv.2.1 98 _).1
  unfold wo wy
  (repeat' split) <;> omega
theorem dX8_laysWay_0 : decode cX8_laysWay 0 = .ok (.iconst 0, 1) := by decide +kernel
theorem dX8_laysWay_1 : decode cX8_laysWay 1 = .ok (.istore_n 1, 1) := by decide +kernel
theorem dX8_laysWay_2 : decode cX8_laysWay 2 = .ok (.iload_n 1, 1) := by decide +kernel
theorem dX8_laysWay_3 : decode cX8_laysWay 3 = .ok (.bipush 40, 2) := by decide +kernel
theorem dX8_laysWay_5 : decode cX8_laysWay 5 = .ok (.if_icmp .ge 18, 3) := by decide +kernel
theorem dX8_laysWay_8 : decode cX8_laysWay 8 = .ok (.aload_n 0, 1) := by decide +kernel
theorem dX8_laysWay_9 : decode cX8_laysWay 9 = .ok (.getfield 118, 3) := by decide +kernel
theorem dX8_laysWay_12 : decode cX8_laysWay 12 = .ok (.iload_n 1, 1) := by decide +kernel
theorem dX8_laysWay_13 : decode cX8_laysWay 13 = .ok (.ldc2_w 329, 3) := by decide +kernel
theorem dX8_laysWay_16 : decode cX8_laysWay 16 = .ok (.lastore, 1) := by decide +kernel
theorem dX8_laysWay_17 : decode cX8_laysWay 17 = .ok (.iinc 1 1, 3) := by decide +kernel
theorem dX8_laysWay_20 : decode cX8_laysWay 20 = .ok (.goto (-18), 3) := by decide +kernel
theorem dX8_laysWay_23 : decode cX8_laysWay 23 = .ok (.iconst 1, 1) := by decide +kernel
theorem dX8_laysWay_24 : decode cX8_laysWay 24 = .ok (.istore_n 1, 1) := by decide +kernel
theorem dX8_laysWay_25 : decode cX8_laysWay 25 = .ok (.iload_n 1, 1) := by decide +kernel
theorem dX8_laysWay_26 : decode cX8_laysWay 26 = .ok (.ifCond .eq 98, 3) := by decide +kernel
theorem dX8_laysWay_29 : decode cX8_laysWay 29 = .ok (.iconst 0, 1) := by decide +kernel
theorem dX8_laysWay_30 : decode cX8_laysWay 30 = .ok (.istore_n 1, 1) := by decide +kernel
theorem dX8_laysWay_31 : decode cX8_laysWay 31 = .ok (.iconst 0, 1) := by decide +kernel
theorem dX8_laysWay_32 : decode cX8_laysWay 32 = .ok (.istore_n 2, 1) := by decide +kernel
theorem dX8_laysWay_33 : decode cX8_laysWay 33 = .ok (.iload_n 2, 1) := by decide +kernel
theorem dX8_laysWay_34 : decode cX8_laysWay 34 = .ok (.aload_n 0, 1) := by decide +kernel
theorem dX8_laysWay_35 : decode cX8_laysWay 35 = .ok (.getfield 23, 3) := by decide +kernel
theorem dX8_laysWay_38 : decode cX8_laysWay 38 = .ok (.aload_n 0, 1) := by decide +kernel
theorem dX8_laysWay_39 : decode cX8_laysWay 39 = .ok (.getfield 187, 3) := by decide +kernel
theorem dX8_laysWay_42 : decode cX8_laysWay 42 = .ok (.iaload, 1) := by decide +kernel
theorem dX8_laysWay_43 : decode cX8_laysWay 43 = .ok (.if_icmp .ge 78, 3) := by decide +kernel
theorem dX8_laysWay_46 : decode cX8_laysWay 46 = .ok (.aload_n 0, 1) := by decide +kernel
theorem dX8_laysWay_47 : decode cX8_laysWay 47 = .ok (.aload_n 0, 1) := by decide +kernel
theorem dX8_laysWay_48 : decode cX8_laysWay 48 = .ok (.iload_n 2, 1) := by decide +kernel
theorem dX8_laysWay_49 : decode cX8_laysWay 49 = .ok (.iconst 0, 1) := by decide +kernel
theorem dX8_laysWay_50 : decode cX8_laysWay 50 = .ok (.invokevirtual 331, 3) := by decide +kernel
theorem dX8_laysWay_53 : decode cX8_laysWay 53 = .ok (.invokevirtual 334, 3) := by decide +kernel
theorem dX8_laysWay_56 : decode cX8_laysWay 56 = .ok (.lstore_n 3, 1) := by decide +kernel
theorem dX8_laysWay_57 : decode cX8_laysWay 57 = .ok (.aload_n 0, 1) := by decide +kernel
theorem dX8_laysWay_58 : decode cX8_laysWay 58 = .ok (.iload_n 2, 1) := by decide +kernel
theorem dX8_laysWay_59 : decode cX8_laysWay 59 = .ok (.iconst 1, 1) := by decide +kernel
theorem dX8_laysWay_60 : decode cX8_laysWay 60 = .ok (.invokevirtual 331, 3) := by decide +kernel
theorem dX8_laysWay_63 : decode cX8_laysWay 63 = .ok (.bipush (-2), 2) := by decide +kernel
theorem dX8_laysWay_65 : decode cX8_laysWay 65 = .ok (.if_icmp .eq 16, 3) := by decide +kernel
theorem dX8_laysWay_68 : decode cX8_laysWay 68 = .ok (.lload_n 3, 1) := by decide +kernel
theorem dX8_laysWay_69 : decode cX8_laysWay 69 = .ok (.aload_n 0, 1) := by decide +kernel
theorem dX8_laysWay_70 : decode cX8_laysWay 70 = .ok (.aload_n 0, 1) := by decide +kernel
theorem dX8_laysWay_71 : decode cX8_laysWay 71 = .ok (.iload_n 2, 1) := by decide +kernel
theorem dX8_laysWay_72 : decode cX8_laysWay 72 = .ok (.iconst 1, 1) := by decide +kernel
theorem dX8_laysWay_73 : decode cX8_laysWay 73 = .ok (.invokevirtual 331, 3) := by decide +kernel
theorem dX8_laysWay_76 : decode cX8_laysWay 76 = .ok (.invokevirtual 334, 3) := by decide +kernel
theorem dX8_laysWay_79 : decode cX8_laysWay 79 = .ok (.land, 1) := by decide +kernel
theorem dX8_laysWay_80 : decode cX8_laysWay 80 = .ok (.lstore_n 3, 1) := by decide +kernel
theorem dX8_laysWay_81 : decode cX8_laysWay 81 = .ok (.lload_n 3, 1) := by decide +kernel
theorem dX8_laysWay_82 : decode cX8_laysWay 82 = .ok (.lconst 1, 1) := by decide +kernel
theorem dX8_laysWay_83 : decode cX8_laysWay 83 = .ok (.iload_n 2, 1) := by decide +kernel
theorem dX8_laysWay_84 : decode cX8_laysWay 84 = .ok (.lshl, 1) := by decide +kernel
theorem dX8_laysWay_85 : decode cX8_laysWay 85 = .ok (.lor, 1) := by decide +kernel
theorem dX8_laysWay_86 : decode cX8_laysWay 86 = .ok (.lstore_n 3, 1) := by decide +kernel
theorem dX8_laysWay_87 : decode cX8_laysWay 87 = .ok (.iload_n 1, 1) := by decide +kernel
theorem dX8_laysWay_88 : decode cX8_laysWay 88 = .ok (.ifCond .ne 14, 3) := by decide +kernel
theorem dX8_laysWay_91 : decode cX8_laysWay 91 = .ok (.lload_n 3, 1) := by decide +kernel
theorem dX8_laysWay_92 : decode cX8_laysWay 92 = .ok (.aload_n 0, 1) := by decide +kernel
theorem dX8_laysWay_93 : decode cX8_laysWay 93 = .ok (.getfield 118, 3) := by decide +kernel
theorem dX8_laysWay_96 : decode cX8_laysWay 96 = .ok (.iload_n 2, 1) := by decide +kernel
theorem dX8_laysWay_97 : decode cX8_laysWay 97 = .ok (.laload, 1) := by decide +kernel
theorem dX8_laysWay_98 : decode cX8_laysWay 98 = .ok (.lcmp, 1) := by decide +kernel
theorem dX8_laysWay_99 : decode cX8_laysWay 99 = .ok (.ifCond .eq 7, 3) := by decide +kernel
theorem dX8_laysWay_102 : decode cX8_laysWay 102 = .ok (.iconst 1, 1) := by decide +kernel
theorem dX8_laysWay_103 : decode cX8_laysWay 103 = .ok (.goto 4, 3) := by decide +kernel
theorem dX8_laysWay_106 : decode cX8_laysWay 106 = .ok (.iconst 0, 1) := by decide +kernel
theorem dX8_laysWay_107 : decode cX8_laysWay 107 = .ok (.istore_n 1, 1) := by decide +kernel
theorem dX8_laysWay_108 : decode cX8_laysWay 108 = .ok (.aload_n 0, 1) := by decide +kernel
theorem dX8_laysWay_109 : decode cX8_laysWay 109 = .ok (.getfield 118, 3) := by decide +kernel
theorem dX8_laysWay_112 : decode cX8_laysWay 112 = .ok (.iload_n 2, 1) := by decide +kernel
theorem dX8_laysWay_113 : decode cX8_laysWay 113 = .ok (.lload_n 3, 1) := by decide +kernel
theorem dX8_laysWay_114 : decode cX8_laysWay 114 = .ok (.lastore, 1) := by decide +kernel
theorem dX8_laysWay_115 : decode cX8_laysWay 115 = .ok (.iinc 2 1, 3) := by decide +kernel
theorem dX8_laysWay_118 : decode cX8_laysWay 118 = .ok (.goto (-85), 3) := by decide +kernel
theorem dX8_laysWay_121 : decode cX8_laysWay 121 = .ok (.goto (-96), 3) := by decide +kernel
theorem dX8_laysWay_124 : decode cX8_laysWay 124 = .ok (.iconst 0, 1) := by decide +kernel
theorem dX8_laysWay_125 : decode cX8_laysWay 125 = .ok (.istore_n 2, 1) := by decide +kernel
theorem dX8_laysWay_126 : decode cX8_laysWay 126 = .ok (.iload_n 2, 1) := by decide +kernel
theorem dX8_laysWay_127 : decode cX8_laysWay 127 = .ok (.aload_n 0, 1) := by decide +kernel
theorem dX8_laysWay_128 : decode cX8_laysWay 128 = .ok (.getfield 23, 3) := by decide +kernel
theorem dX8_laysWay_131 : decode cX8_laysWay 131 = .ok (.aload_n 0, 1) := by decide +kernel
theorem dX8_laysWay_132 : decode cX8_laysWay 132 = .ok (.getfield 187, 3) := by decide +kernel
theorem dX8_laysWay_135 : decode cX8_laysWay 135 = .ok (.iaload, 1) := by decide +kernel
theorem dX8_laysWay_136 : decode cX8_laysWay 136 = .ok (.if_icmp .ge 16, 3) := by decide +kernel
theorem dX8_laysWay_139 : decode cX8_laysWay 139 = .ok (.aload_n 0, 1) := by decide +kernel
theorem dX8_laysWay_140 : decode cX8_laysWay 140 = .ok (.getfield 115, 3) := by decide +kernel
theorem dX8_laysWay_143 : decode cX8_laysWay 143 = .ok (.iload_n 2, 1) := by decide +kernel
theorem dX8_laysWay_144 : decode cX8_laysWay 144 = .ok (.lconst 0, 1) := by decide +kernel
theorem dX8_laysWay_145 : decode cX8_laysWay 145 = .ok (.lastore, 1) := by decide +kernel
theorem dX8_laysWay_146 : decode cX8_laysWay 146 = .ok (.iinc 2 1, 3) := by decide +kernel
theorem dX8_laysWay_149 : decode cX8_laysWay 149 = .ok (.goto (-23), 3) := by decide +kernel
theorem dX8_laysWay_152 : decode cX8_laysWay 152 = .ok (.iconst 0, 1) := by decide +kernel
theorem dX8_laysWay_153 : decode cX8_laysWay 153 = .ok (.istore_n 2, 1) := by decide +kernel
theorem dX8_laysWay_154 : decode cX8_laysWay 154 = .ok (.iload_n 2, 1) := by decide +kernel
theorem dX8_laysWay_155 : decode cX8_laysWay 155 = .ok (.aload_n 0, 1) := by decide +kernel
theorem dX8_laysWay_156 : decode cX8_laysWay 156 = .ok (.getfield 23, 3) := by decide +kernel
theorem dX8_laysWay_159 : decode cX8_laysWay 159 = .ok (.aload_n 0, 1) := by decide +kernel
theorem dX8_laysWay_160 : decode cX8_laysWay 160 = .ok (.getfield 187, 3) := by decide +kernel
theorem dX8_laysWay_163 : decode cX8_laysWay 163 = .ok (.iaload, 1) := by decide +kernel
theorem dX8_laysWay_164 : decode cX8_laysWay 164 = .ok (.if_icmp .ge 119, 3) := by decide +kernel
theorem dX8_laysWay_167 : decode cX8_laysWay 167 = .ok (.aload_n 0, 1) := by decide +kernel
theorem dX8_laysWay_168 : decode cX8_laysWay 168 = .ok (.iload_n 2, 1) := by decide +kernel
theorem dX8_laysWay_169 : decode cX8_laysWay 169 = .ok (.invokevirtual 338, 3) := by decide +kernel
theorem dX8_laysWay_172 : decode cX8_laysWay 172 = .ok (.ifCond .ne 6, 3) := by decide +kernel
theorem dX8_laysWay_175 : decode cX8_laysWay 175 = .ok (.goto 102, 3) := by decide +kernel
theorem dX8_laysWay_178 : decode cX8_laysWay 178 = .ok (.aload_n 0, 1) := by decide +kernel
theorem dX8_laysWay_179 : decode cX8_laysWay 179 = .ok (.aload_n 0, 1) := by decide +kernel
theorem dX8_laysWay_180 : decode cX8_laysWay 180 = .ok (.iload_n 2, 1) := by decide +kernel
theorem dX8_laysWay_181 : decode cX8_laysWay 181 = .ok (.iconst 0, 1) := by decide +kernel
theorem dX8_laysWay_182 : decode cX8_laysWay 182 = .ok (.invokevirtual 331, 3) := by decide +kernel
theorem dX8_laysWay_185 : decode cX8_laysWay 185 = .ok (.invokevirtual 334, 3) := by decide +kernel
theorem dX8_laysWay_188 : decode cX8_laysWay 188 = .ok (.aload_n 0, 1) := by decide +kernel
theorem dX8_laysWay_189 : decode cX8_laysWay 189 = .ok (.aload_n 0, 1) := by decide +kernel
theorem dX8_laysWay_190 : decode cX8_laysWay 190 = .ok (.iload_n 2, 1) := by decide +kernel
theorem dX8_laysWay_191 : decode cX8_laysWay 191 = .ok (.iconst 1, 1) := by decide +kernel
theorem dX8_laysWay_192 : decode cX8_laysWay 192 = .ok (.invokevirtual 331, 3) := by decide +kernel
theorem dX8_laysWay_195 : decode cX8_laysWay 195 = .ok (.invokevirtual 334, 3) := by decide +kernel
theorem dX8_laysWay_198 : decode cX8_laysWay 198 = .ok (.lxor, 1) := by decide +kernel
theorem dX8_laysWay_199 : decode cX8_laysWay 199 = .ok (.lstore_n 3, 1) := by decide +kernel
theorem dX8_laysWay_200 : decode cX8_laysWay 200 = .ok (.iconst 0, 1) := by decide +kernel
theorem dX8_laysWay_201 : decode cX8_laysWay 201 = .ok (.istore 5, 2) := by decide +kernel
theorem dX8_laysWay_203 : decode cX8_laysWay 203 = .ok (.iload 5, 2) := by decide +kernel
theorem dX8_laysWay_205 : decode cX8_laysWay 205 = .ok (.aload_n 0, 1) := by decide +kernel
theorem dX8_laysWay_206 : decode cX8_laysWay 206 = .ok (.getfield 23, 3) := by decide +kernel
theorem dX8_laysWay_209 : decode cX8_laysWay 209 = .ok (.aload_n 0, 1) := by decide +kernel
theorem dX8_laysWay_210 : decode cX8_laysWay 210 = .ok (.getfield 187, 3) := by decide +kernel
theorem dX8_laysWay_213 : decode cX8_laysWay 213 = .ok (.iaload, 1) := by decide +kernel
theorem dX8_laysWay_214 : decode cX8_laysWay 214 = .ok (.if_icmp .ge 63, 3) := by decide +kernel
theorem dX8_laysWay_217 : decode cX8_laysWay 217 = .ok (.lload_n 3, 1) := by decide +kernel
theorem dX8_laysWay_218 : decode cX8_laysWay 218 = .ok (.iload 5, 2) := by decide +kernel
theorem dX8_laysWay_220 : decode cX8_laysWay 220 = .ok (.invokestatic 280, 3) := by decide +kernel
theorem dX8_laysWay_223 : decode cX8_laysWay 223 = .ok (.ifCond .ne 6, 3) := by decide +kernel
theorem dX8_laysWay_226 : decode cX8_laysWay 226 = .ok (.goto 45, 3) := by decide +kernel
theorem dX8_laysWay_229 : decode cX8_laysWay 229 = .ok (.aload_n 0, 1) := by decide +kernel
theorem dX8_laysWay_230 : decode cX8_laysWay 230 = .ok (.getfield 115, 3) := by decide +kernel
theorem dX8_laysWay_233 : decode cX8_laysWay 233 = .ok (.iload 5, 2) := by decide +kernel
theorem dX8_laysWay_235 : decode cX8_laysWay 235 = .ok (.dup2, 1) := by decide +kernel
theorem dX8_laysWay_236 : decode cX8_laysWay 236 = .ok (.laload, 1) := by decide +kernel
theorem dX8_laysWay_237 : decode cX8_laysWay 237 = .ok (.lconst 1, 1) := by decide +kernel
theorem dX8_laysWay_238 : decode cX8_laysWay 238 = .ok (.iload_n 2, 1) := by decide +kernel
theorem dX8_laysWay_239 : decode cX8_laysWay 239 = .ok (.lshl, 1) := by decide +kernel
theorem dX8_laysWay_240 : decode cX8_laysWay 240 = .ok (.lor, 1) := by decide +kernel
theorem dX8_laysWay_241 : decode cX8_laysWay 241 = .ok (.lastore, 1) := by decide +kernel
theorem dX8_laysWay_242 : decode cX8_laysWay 242 = .ok (.aload_n 0, 1) := by decide +kernel
theorem dX8_laysWay_243 : decode cX8_laysWay 243 = .ok (.iload 5, 2) := by decide +kernel
theorem dX8_laysWay_245 : decode cX8_laysWay 245 = .ok (.iconst 0, 1) := by decide +kernel
theorem dX8_laysWay_246 : decode cX8_laysWay 246 = .ok (.invokestatic 291, 3) := by decide +kernel
theorem dX8_laysWay_249 : decode cX8_laysWay 249 = .ok (.iload_n 2, 1) := by decide +kernel
theorem dX8_laysWay_250 : decode cX8_laysWay 250 = .ok (.aload_n 0, 1) := by decide +kernel
theorem dX8_laysWay_251 : decode cX8_laysWay 251 = .ok (.iload_n 2, 1) := by decide +kernel
theorem dX8_laysWay_252 : decode cX8_laysWay 252 = .ok (.invokevirtual 271, 3) := by decide +kernel
theorem dX8_laysWay_255 : decode cX8_laysWay 255 = .ok (.iconst 1, 1) := by decide +kernel
theorem dX8_laysWay_256 : decode cX8_laysWay 256 = .ok (.if_icmp .ne 8, 3) := by decide +kernel
theorem dX8_laysWay_259 : decode cX8_laysWay 259 = .ok (.bipush 8, 2) := by decide +kernel
theorem dX8_laysWay_261 : decode cX8_laysWay 261 = .ok (.goto 4, 3) := by decide +kernel
theorem dX8_laysWay_264 : decode cX8_laysWay 264 = .ok (.iconst 0, 1) := by decide +kernel
theorem dX8_laysWay_265 : decode cX8_laysWay 265 = .ok (.invokestatic 291, 3) := by decide +kernel
theorem dX8_laysWay_268 : decode cX8_laysWay 268 = .ok (.invokevirtual 303, 3) := by decide +kernel
theorem dX8_laysWay_271 : decode cX8_laysWay 271 = .ok (.iinc 5 1, 3) := by decide +kernel
theorem dX8_laysWay_274 : decode cX8_laysWay 274 = .ok (.goto (-71), 3) := by decide +kernel
theorem dX8_laysWay_277 : decode cX8_laysWay 277 = .ok (.iinc 2 1, 3) := by decide +kernel
theorem dX8_laysWay_280 : decode cX8_laysWay 280 = .ok (.goto (-126), 3) := by decide +kernel
theorem dX8_laysWay_283 : decode cX8_laysWay 283 = .ok (.iconst 0, 1) := by decide +kernel
theorem dX8_laysWay_284 : decode cX8_laysWay 284 = .ok (.istore_n 2, 1) := by decide +kernel
theorem dX8_laysWay_285 : decode cX8_laysWay 285 = .ok (.iload_n 2, 1) := by decide +kernel
theorem dX8_laysWay_286 : decode cX8_laysWay 286 = .ok (.aload_n 0, 1) := by decide +kernel
theorem dX8_laysWay_287 : decode cX8_laysWay 287 = .ok (.getfield 26, 3) := by decide +kernel
theorem dX8_laysWay_290 : decode cX8_laysWay 290 = .ok (.aload_n 0, 1) := by decide +kernel
theorem dX8_laysWay_291 : decode cX8_laysWay 291 = .ok (.getfield 187, 3) := by decide +kernel
theorem dX8_laysWay_294 : decode cX8_laysWay 294 = .ok (.iaload, 1) := by decide +kernel
theorem dX8_laysWay_295 : decode cX8_laysWay 295 = .ok (.if_icmp .ge 80, 3) := by decide +kernel
theorem dX8_laysWay_298 : decode cX8_laysWay 298 = .ok (.aload_n 0, 1) := by decide +kernel
theorem dX8_laysWay_299 : decode cX8_laysWay 299 = .ok (.getfield 121, 3) := by decide +kernel
theorem dX8_laysWay_302 : decode cX8_laysWay 302 = .ok (.iload_n 2, 1) := by decide +kernel
theorem dX8_laysWay_303 : decode cX8_laysWay 303 = .ok (.aload_n 0, 1) := by decide +kernel
theorem dX8_laysWay_304 : decode cX8_laysWay 304 = .ok (.aload_n 0, 1) := by decide +kernel
theorem dX8_laysWay_305 : decode cX8_laysWay 305 = .ok (.getfield 98, 3) := by decide +kernel
theorem dX8_laysWay_308 : decode cX8_laysWay 308 = .ok (.iconst 5, 1) := by decide +kernel
theorem dX8_laysWay_309 : decode cX8_laysWay 309 = .ok (.aload_n 0, 1) := by decide +kernel
theorem dX8_laysWay_310 : decode cX8_laysWay 310 = .ok (.getfield 187, 3) := by decide +kernel
theorem dX8_laysWay_313 : decode cX8_laysWay 313 = .ok (.imul, 1) := by decide +kernel
theorem dX8_laysWay_314 : decode cX8_laysWay 314 = .ok (.iload_n 2, 1) := by decide +kernel
theorem dX8_laysWay_315 : decode cX8_laysWay 315 = .ok (.iadd, 1) := by decide +kernel
theorem dX8_laysWay_316 : decode cX8_laysWay 316 = .ok (.iaload, 1) := by decide +kernel
theorem dX8_laysWay_317 : decode cX8_laysWay 317 = .ok (.invokevirtual 334, 3) := by decide +kernel
theorem dX8_laysWay_320 : decode cX8_laysWay 320 = .ok (.lastore, 1) := by decide +kernel
theorem dX8_laysWay_321 : decode cX8_laysWay 321 = .ok (.iconst 0, 1) := by decide +kernel
theorem dX8_laysWay_322 : decode cX8_laysWay 322 = .ok (.istore_n 3, 1) := by decide +kernel
theorem dX8_laysWay_323 : decode cX8_laysWay 323 = .ok (.iload_n 3, 1) := by decide +kernel
theorem dX8_laysWay_324 : decode cX8_laysWay 324 = .ok (.aload_n 0, 1) := by decide +kernel
theorem dX8_laysWay_325 : decode cX8_laysWay 325 = .ok (.getfield 23, 3) := by decide +kernel
theorem dX8_laysWay_328 : decode cX8_laysWay 328 = .ok (.aload_n 0, 1) := by decide +kernel
theorem dX8_laysWay_329 : decode cX8_laysWay 329 = .ok (.getfield 187, 3) := by decide +kernel
theorem dX8_laysWay_332 : decode cX8_laysWay 332 = .ok (.iaload, 1) := by decide +kernel
theorem dX8_laysWay_333 : decode cX8_laysWay 333 = .ok (.if_icmp .ge 36, 3) := by decide +kernel
theorem dX8_laysWay_336 : decode cX8_laysWay 336 = .ok (.aload_n 0, 1) := by decide +kernel
theorem dX8_laysWay_337 : decode cX8_laysWay 337 = .ok (.getfield 121, 3) := by decide +kernel
theorem dX8_laysWay_340 : decode cX8_laysWay 340 = .ok (.iload_n 2, 1) := by decide +kernel
theorem dX8_laysWay_341 : decode cX8_laysWay 341 = .ok (.laload, 1) := by decide +kernel
theorem dX8_laysWay_342 : decode cX8_laysWay 342 = .ok (.iload_n 3, 1) := by decide +kernel
theorem dX8_laysWay_343 : decode cX8_laysWay 343 = .ok (.invokestatic 280, 3) := by decide +kernel
theorem dX8_laysWay_346 : decode cX8_laysWay 346 = .ok (.ifCond .eq 17, 3) := by decide +kernel
theorem dX8_laysWay_349 : decode cX8_laysWay 349 = .ok (.aload_n 0, 1) := by decide +kernel
theorem dX8_laysWay_350 : decode cX8_laysWay 350 = .ok (.iload_n 3, 1) := by decide +kernel
theorem dX8_laysWay_351 : decode cX8_laysWay 351 = .ok (.iconst 0, 1) := by decide +kernel
theorem dX8_laysWay_352 : decode cX8_laysWay 352 = .ok (.invokestatic 291, 3) := by decide +kernel
theorem dX8_laysWay_355 : decode cX8_laysWay 355 = .ok (.iload_n 2, 1) := by decide +kernel
theorem dX8_laysWay_356 : decode cX8_laysWay 356 = .ok (.iconst 0, 1) := by decide +kernel
theorem dX8_laysWay_357 : decode cX8_laysWay 357 = .ok (.invokestatic 300, 3) := by decide +kernel
theorem dX8_laysWay_360 : decode cX8_laysWay 360 = .ok (.invokevirtual 303, 3) := by decide +kernel
theorem dX8_laysWay_363 : decode cX8_laysWay 363 = .ok (.iinc 3 1, 3) := by decide +kernel
theorem dX8_laysWay_366 : decode cX8_laysWay 366 = .ok (.goto (-43), 3) := by decide +kernel
theorem dX8_laysWay_369 : decode cX8_laysWay 369 = .ok (.iinc 2 1, 3) := by decide +kernel
theorem dX8_laysWay_372 : decode cX8_laysWay 372 = .ok (.goto (-87), 3) := by decide +kernel
theorem dX8_laysWay_375 : decode cX8_laysWay 375 = .ok (.iconst 0, 1) := by decide +kernel
theorem dX8_laysWay_376 : decode cX8_laysWay 376 = .ok (.istore_n 2, 1) := by decide +kernel
theorem dX8_laysWay_377 : decode cX8_laysWay 377 = .ok (.iload_n 2, 1) := by decide +kernel
theorem dX8_laysWay_378 : decode cX8_laysWay 378 = .ok (.aload_n 0, 1) := by decide +kernel
theorem dX8_laysWay_379 : decode cX8_laysWay 379 = .ok (.getfield 23, 3) := by decide +kernel
theorem dX8_laysWay_382 : decode cX8_laysWay 382 = .ok (.aload_n 0, 1) := by decide +kernel
theorem dX8_laysWay_383 : decode cX8_laysWay 383 = .ok (.getfield 187, 3) := by decide +kernel
theorem dX8_laysWay_386 : decode cX8_laysWay 386 = .ok (.iaload, 1) := by decide +kernel
theorem dX8_laysWay_387 : decode cX8_laysWay 387 = .ok (.if_icmp .ge 46, 3) := by decide +kernel
theorem dX8_laysWay_390 : decode cX8_laysWay 390 = .ok (.iconst 1, 1) := by decide +kernel
theorem dX8_laysWay_391 : decode cX8_laysWay 391 = .ok (.istore_n 3, 1) := by decide +kernel
theorem dX8_laysWay_392 : decode cX8_laysWay 392 = .ok (.iload_n 3, 1) := by decide +kernel
theorem dX8_laysWay_393 : decode cX8_laysWay 393 = .ok (.bipush 13, 2) := by decide +kernel
theorem dX8_laysWay_395 : decode cX8_laysWay 395 = .ok (.if_icmp .ge 32, 3) := by decide +kernel
theorem dX8_laysWay_398 : decode cX8_laysWay 398 = .ok (.aload_n 0, 1) := by decide +kernel
theorem dX8_laysWay_399 : decode cX8_laysWay 399 = .ok (.iload_n 2, 1) := by decide +kernel
theorem dX8_laysWay_400 : decode cX8_laysWay 400 = .ok (.invokevirtual 271, 3) := by decide +kernel
theorem dX8_laysWay_403 : decode cX8_laysWay 403 = .ok (.iconst 1, 1) := by decide +kernel
theorem dX8_laysWay_404 : decode cX8_laysWay 404 = .ok (.if_icmp .ne 23, 3) := by decide +kernel
theorem dX8_laysWay_407 : decode cX8_laysWay 407 = .ok (.aload_n 0, 1) := by decide +kernel
theorem dX8_laysWay_408 : decode cX8_laysWay 408 = .ok (.iload_n 2, 1) := by decide +kernel
theorem dX8_laysWay_409 : decode cX8_laysWay 409 = .ok (.iload_n 3, 1) := by decide +kernel
theorem dX8_laysWay_410 : decode cX8_laysWay 410 = .ok (.invokestatic 291, 3) := by decide +kernel
theorem dX8_laysWay_413 : decode cX8_laysWay 413 = .ok (.iload_n 2, 1) := by decide +kernel
theorem dX8_laysWay_414 : decode cX8_laysWay 414 = .ok (.iconst 0, 1) := by decide +kernel
theorem dX8_laysWay_415 : decode cX8_laysWay 415 = .ok (.invokestatic 291, 3) := by decide +kernel
theorem dX8_laysWay_418 : decode cX8_laysWay 418 = .ok (.invokevirtual 303, 3) := by decide +kernel
theorem dX8_laysWay_421 : decode cX8_laysWay 421 = .ok (.iinc 3 1, 3) := by decide +kernel
theorem dX8_laysWay_424 : decode cX8_laysWay 424 = .ok (.goto (-32), 3) := by decide +kernel
theorem dX8_laysWay_427 : decode cX8_laysWay 427 = .ok (.iinc 2 1, 3) := by decide +kernel
theorem dX8_laysWay_430 : decode cX8_laysWay 430 = .ok (.goto (-53), 3) := by decide +kernel
theorem dX8_laysWay_433 : decode cX8_laysWay 433 = .ok (.return_, 1) := by decide +kernel
