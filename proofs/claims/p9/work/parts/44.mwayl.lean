/-! what stands on all rows of ways: sets that shrink -/
abbrev LN : Type := Nat → Nat → Int64
def sub (a b : Int64) : Prop := ∀ j, j < 64 → a.toBitVec.getLsbD j = true → b.toBitVec.getLsbD j = true
theorem sub_or {a b : Int64} (h : sub a b) : a ||| b = b := by
  apply Int64.toBitVec_inj.mp
  apply BitVec.eq_of_getLsbD_eq
  intro j hj
  rw [Int64.toBitVec_or, BitVec.getLsbD_or]
  cases q : a.toBitVec.getLsbD j
  · rw [Bool.false_or]
  · rw [h j hj q]; rfl
theorem sub_un {a b : Int64} (h : sub a b) : un a ≤ un b := by
  have := un_or a b
  rw [sub_or h] at this
  exact this
theorem sub_rfl (a : Int64) : sub a a := fun _ _ q => q
theorem sub_tr {a b c : Int64} (h : sub a b) (g : sub b c) : sub a c := fun j hj q => g j hj (h j hj q)
theorem sub_all (a : Int64) : sub a (-1) := fun j hj _ => by
  have e : (-1 : Int64).toBitVec = BitVec.allOnes 64 := by decide
  rw [e, BitVec.getLsbD_allOnes]
  simp [hj]
theorem sub_and {a b c d : Int64} (h : sub a b) (g : sub c d) : sub (a &&& c) (b &&& d) := fun j hj q => by
  rw [Int64.toBitVec_and, BitVec.getLsbD_and, Bool.and_eq_true] at *
  exact ⟨h j hj q.1, g j hj q.2⟩
theorem sub_orr {a b c : Int64} (h : sub a b) : sub (a ||| c) (b ||| c) := fun j hj q => by
  rw [Int64.toBitVec_or, BitVec.getLsbD_or, Bool.or_eq_true] at *
  rcases q with q | q
  · exact Or.inl (h j hj q)
  · exact Or.inr q
def oa (L : LN) (t : Int) : Int64 := if t = -1 then 0 else L 106 t.toNat
def nw (F : FN) (L : LN) (S s : Int) : Int64 := (if wo F S s 1 = -2 then oa L (wo F S s 0) else oa L (wo F S s 0) &&& oa L (wo F S s 1)) ||| (1 <<< ((Int32.ofNat s.toNat).toInt64 &&& 63))
def SH (F : FN) (L : LN) (S : Int) : Prop := ∀ s, 0 ≤ s → s < V F 75 S → sub (nw F L S s) (L 106 s.toNat)
def sU (L : LN) : Nat → Nat
  | 0 => 0
  | n + 1 => sU L n + (L 106 n).toBitVec.toNat
def uu (L : LN) : Int := (sU L 40 : Int)
theorem sU_le (L : LN) (n : Nat) : sU L n ≤ n * 18446744073709551616 := by
  induction n with
  | zero => exact Nat.le_refl _
  | succ n ih =>
    show sU L n + (L 106 n).toBitVec.toNat ≤ _
    have := (L 106 n).toBitVec.isLt
    omega
theorem uu_hi (L : LN) : 0 ≤ uu L ∧ uu L ≤ 40 * 18446744073709551616 := by
  have := sU_le L 40
  unfold uu
  omega
theorem oa_mono {L M : LN} (h : ∀ j, sub (M 106 j) (L 106 j)) (t : Int) : sub (oa M t) (oa L t) := by
  unfold oa
  split
  · exact sub_rfl _
  · exact h _
theorem nw_mono {F : FN} {L M : LN} {S : Int} (h : ∀ j, sub (M 106 j) (L 106 j)) (s : Int) : sub (nw F M S s) (nw F L S s) := by
  unfold nw
  refine sub_orr ?_
  split
  · exact oa_mono h _
  · exact sub_and (oa_mono h _) (oa_mono h _)
theorem SH.step {F : FN} {L : LN} {S s : Int} {v : Int64} (h0 : 0 ≤ s) (h1 : s < V F 75 S) (h2 : s < 40) (h : SH F L S) (hv : v = nw F L S s) :
    let M : LN := fun p q => if p = 106 ∧ q = s.toNat then v else L p q
    SH F M S ∧ uu M ≤ uu L ∧ (¬ v = L 106 s.toNat → uu M + 1 ≤ uu L) := by
  intro M
  have em : ∀ j, j ≠ s.toNat → M 106 j = L 106 j := fun j q => by
    show (if 106 = 106 ∧ j = s.toNat then v else L 106 j) = _
    rw [if_neg (by omega)]
  have es : M 106 s.toNat = v := by
    show (if 106 = 106 ∧ s.toNat = s.toNat then v else L 106 s.toNat) = _
    rw [if_pos ⟨rfl, rfl⟩]
  have hsub : ∀ j, sub (M 106 j) (L 106 j) := fun j => by
    by_cases q : j = s.toNat
    · rw [q, es, hv]; exact h s h0 h1
    · rw [em j q]; exact sub_rfl _
  have hs2 : sub v (L 106 s.toNat) := by rw [hv]; exact h s h0 h1
  have us := sub_un hs2
  have sum : ∀ n, (n ≤ s.toNat → sU M n = sU L n) ∧ (s.toNat < n → sU M n + (L 106 s.toNat).toBitVec.toNat = sU L n + v.toBitVec.toNat) := fun n => by
    induction n with
    | zero => exact ⟨fun _ => rfl, fun q => by omega⟩
    | succ n ih =>
      refine ⟨fun q => ?_, fun q => ?_⟩
      · show sU M n + (M 106 n).toBitVec.toNat = sU L n + (L 106 n).toBitVec.toNat
        rw [ih.1 (by omega), em n (by omega)]
      · show sU M n + (M 106 n).toBitVec.toNat + _ = sU L n + (L 106 n).toBitVec.toNat + _
        by_cases w : n = s.toNat
        · rw [w, es, ← w, ih.1 (by omega)]; omega
        · rw [em n w]
          have := ih.2 (by omega)
          omega
  have s40 := (sum 40).2 (by omega)
  unfold un at us
  refine ⟨fun t a b => ?_, by unfold uu; omega, fun q => ?_⟩
  · have m := nw_mono (F := F) (S := S) hsub t
    by_cases w : t = s
    · rw [w, es, hv]
      rw [w] at m
      exact m
    · rw [em _ (by omega)]
      exact sub_tr m (h t a b)
  · have ne : ¬ un v = un (L 106 s.toNat) := fun z => q (un_inj z)
    unfold un at ne
    unfold uu
    omega
theorem SH.init {F : FN} {L : LN} {S : Int} (h : ∀ j : Nat, (j : Int) < 40 → L 106 j = -1) (hn : V F 75 S ≤ 40) : SH F L S := fun s a b => by
  rw [h _ (by omega)]
  exact sub_all _
theorem wy_ve {F G : FN} (h : VE F G) (S s e : Int) : wy G S s e = wy F S s e := by
  unfold wy
  rw [h.v (c := 77) (by omega) (by omega), h.v (c := 93) (by omega) (by omega), h.v (c := 95) (by omega) (by omega), h.v (c := 96) (by omega) (by omega), h.v (c := 97) (by omega) (by omega), h.v (c := 98) (by omega) (by omega), h.v (c := 84) (by omega) (by omega), h.v (c := 101) (by omega) (by omega), h.v (c := 102) (by omega) (by omega)]
theorem wo_ve {F G : FN} (h : VE F G) (S s e : Int) : wo G S s e = wo F S s e := by
  unfold wo
  rw [wy_ve h, h.v (c := 77) (by omega) (by omega), h.v (c := 93) (by omega) (by omega), h.v (c := 95) (by omega) (by omega), h.v (c := 98) (by omega) (by omega), h.v (c := 84) (by omega) (by omega), h.v (c := 102) (by omega) (by omega)]
/-- tests and loops lead within -/
def WI (F : FN) (S : Int) : Prop := ∀ k, 0 ≤ k → k < V F 75 S → (V F 77 (V F 93 (40 * S + k)) = 2 ∨ V F 77 (V F 93 (40 * S + k)) = 3) → -1 ≤ V F 96 (40 * S + k)
theorem WI.wo0 {P : PP} {h : HP} {S k : Int} (hv : Iv P h) (w : WI h.2.1 S) (h0 : 0 ≤ k) (h1 : k < V h.2.1 75 S) : -1 ≤ wo h.2.1 S k 0 := by
  have r5 : -1 ≤ V h.2.1 95 (40 * S + k) := (hv.2.1 95 _).1
  have r8 : -1 ≤ V h.2.1 98 (40 * S + k) := (hv.2.1 98 _).1
  have wk := w k h0 h1
  unfold wo wy
  (repeat' split) <;> omega
theorem wo1_ge {P : PP} {h : HP} {S k : Int} (hv : Iv P h) (d : V h.2.1 77 (V h.2.1 93 (40 * S + k)) = 2 ∨ V h.2.1 77 (V h.2.1 93 (40 * S + k)) = 3 ∨ V h.2.1 77 (V h.2.1 93 (40 * S + k)) = 4 ∨ V h.2.1 77 (V h.2.1 93 (40 * S + k)) = 5 ∨ (V h.2.1 77 (V h.2.1 93 (40 * S + k)) = 1 ∧ V h.2.1 102 (5 * S + V h.2.1 84 (V h.2.1 93 (40 * S + k))) = 1)) : -1 ≤ wo h.2.1 S k 1 := by
  have r5 : -1 ≤ V h.2.1 95 (40 * S + k) := (hv.2.1 95 _).1
  have r7 : -1 ≤ V h.2.1 97 (40 * S + k) := (hv.2.1 97 _).1
  have r8 : -1 ≤ V h.2.1 98 (40 * S + k) := (hv.2.1 98 _).1
  unfold wo wy
  (repeat' split) <;> omega
theorem dX8_laysWay_0 : decode cX8_laysWay 0 = .ok (.iconst 0, 1) := by decide +kernel
theorem dX8_laysWay_1 : decode cX8_laysWay 1 = .ok (.istore_n 1, 1) := by decide +kernel
theorem dX8_laysWay_2 : decode cX8_laysWay 2 = .ok (.iload_n 1, 1) := by decide +kernel
theorem dX8_laysWay_3 : decode cX8_laysWay 3 = .ok (.bipush 40, 2) := by decide +kernel
theorem dX8_laysWay_5 : decode cX8_laysWay 5 = .ok (.if_icmp .ge 18, 3) := by decide +kernel
theorem dX8_laysWay_8 : decode cX8_laysWay 8 = .ok (.aload_n 0, 1) := by decide +kernel
theorem dX8_laysWay_9 : decode cX8_laysWay 9 = .ok (.getfield 118, 3) := by decide +kernel
theorem dX8_laysWay_12 : decode cX8_laysWay 12 = .ok (.iload_n 1, 1) := by decide +kernel
theorem dX8_laysWay_13 : decode cX8_laysWay 13 = .ok (.ldc2_w 329, 3) := by decide +kernel
theorem dX8_laysWay_16 : decode cX8_laysWay 16 = .ok (.lastore, 1) := by decide +kernel
theorem dX8_laysWay_17 : decode cX8_laysWay 17 = .ok (.iinc 1 1, 3) := by decide +kernel
theorem dX8_laysWay_20 : decode cX8_laysWay 20 = .ok (.goto (-18), 3) := by decide +kernel
theorem dX8_laysWay_23 : decode cX8_laysWay 23 = .ok (.iconst 1, 1) := by decide +kernel
theorem dX8_laysWay_24 : decode cX8_laysWay 24 = .ok (.istore_n 1, 1) := by decide +kernel
theorem dX8_laysWay_25 : decode cX8_laysWay 25 = .ok (.iload_n 1, 1) := by decide +kernel
theorem dX8_laysWay_26 : decode cX8_laysWay 26 = .ok (.ifCond .eq 98, 3) := by decide +kernel
theorem dX8_laysWay_29 : decode cX8_laysWay 29 = .ok (.iconst 0, 1) := by decide +kernel
theorem dX8_laysWay_30 : decode cX8_laysWay 30 = .ok (.istore_n 1, 1) := by decide +kernel
theorem dX8_laysWay_31 : decode cX8_laysWay 31 = .ok (.iconst 0, 1) := by decide +kernel
theorem dX8_laysWay_32 : decode cX8_laysWay 32 = .ok (.istore_n 2, 1) := by decide +kernel
theorem dX8_laysWay_33 : decode cX8_laysWay 33 = .ok (.iload_n 2, 1) := by decide +kernel
theorem dX8_laysWay_34 : decode cX8_laysWay 34 = .ok (.aload_n 0, 1) := by decide +kernel
theorem dX8_laysWay_35 : decode cX8_laysWay 35 = .ok (.getfield 23, 3) := by decide +kernel
theorem dX8_laysWay_38 : decode cX8_laysWay 38 = .ok (.aload_n 0, 1) := by decide +kernel
theorem dX8_laysWay_39 : decode cX8_laysWay 39 = .ok (.getfield 187, 3) := by decide +kernel
theorem dX8_laysWay_42 : decode cX8_laysWay 42 = .ok (.iaload, 1) := by decide +kernel
theorem dX8_laysWay_43 : decode cX8_laysWay 43 = .ok (.if_icmp .ge 78, 3) := by decide +kernel
theorem dX8_laysWay_46 : decode cX8_laysWay 46 = .ok (.aload_n 0, 1) := by decide +kernel
theorem dX8_laysWay_47 : decode cX8_laysWay 47 = .ok (.aload_n 0, 1) := by decide +kernel
theorem dX8_laysWay_48 : decode cX8_laysWay 48 = .ok (.iload_n 2, 1) := by decide +kernel
theorem dX8_laysWay_49 : decode cX8_laysWay 49 = .ok (.iconst 0, 1) := by decide +kernel
theorem dX8_laysWay_50 : decode cX8_laysWay 50 = .ok (.invokevirtual 331, 3) := by decide +kernel
theorem dX8_laysWay_53 : decode cX8_laysWay 53 = .ok (.invokevirtual 334, 3) := by decide +kernel
theorem dX8_laysWay_56 : decode cX8_laysWay 56 = .ok (.lstore_n 3, 1) := by decide +kernel
theorem dX8_laysWay_57 : decode cX8_laysWay 57 = .ok (.aload_n 0, 1) := by decide +kernel
theorem dX8_laysWay_58 : decode cX8_laysWay 58 = .ok (.iload_n 2, 1) := by decide +kernel
theorem dX8_laysWay_59 : decode cX8_laysWay 59 = .ok (.iconst 1, 1) := by decide +kernel
theorem dX8_laysWay_60 : decode cX8_laysWay 60 = .ok (.invokevirtual 331, 3) := by decide +kernel
theorem dX8_laysWay_63 : decode cX8_laysWay 63 = .ok (.bipush (-2), 2) := by decide +kernel
theorem dX8_laysWay_65 : decode cX8_laysWay 65 = .ok (.if_icmp .eq 16, 3) := by decide +kernel
theorem dX8_laysWay_68 : decode cX8_laysWay 68 = .ok (.lload_n 3, 1) := by decide +kernel
theorem dX8_laysWay_69 : decode cX8_laysWay 69 = .ok (.aload_n 0, 1) := by decide +kernel
theorem dX8_laysWay_70 : decode cX8_laysWay 70 = .ok (.aload_n 0, 1) := by decide +kernel
theorem dX8_laysWay_71 : decode cX8_laysWay 71 = .ok (.iload_n 2, 1) := by decide +kernel
theorem dX8_laysWay_72 : decode cX8_laysWay 72 = .ok (.iconst 1, 1) := by decide +kernel
theorem dX8_laysWay_73 : decode cX8_laysWay 73 = .ok (.invokevirtual 331, 3) := by decide +kernel
theorem dX8_laysWay_76 : decode cX8_laysWay 76 = .ok (.invokevirtual 334, 3) := by decide +kernel
theorem dX8_laysWay_79 : decode cX8_laysWay 79 = .ok (.land, 1) := by decide +kernel
theorem dX8_laysWay_80 : decode cX8_laysWay 80 = .ok (.lstore_n 3, 1) := by decide +kernel
theorem dX8_laysWay_81 : decode cX8_laysWay 81 = .ok (.lload_n 3, 1) := by decide +kernel
theorem dX8_laysWay_82 : decode cX8_laysWay 82 = .ok (.lconst 1, 1) := by decide +kernel
theorem dX8_laysWay_83 : decode cX8_laysWay 83 = .ok (.iload_n 2, 1) := by decide +kernel
theorem dX8_laysWay_84 : decode cX8_laysWay 84 = .ok (.lshl, 1) := by decide +kernel
theorem dX8_laysWay_85 : decode cX8_laysWay 85 = .ok (.lor, 1) := by decide +kernel
theorem dX8_laysWay_86 : decode cX8_laysWay 86 = .ok (.lstore_n 3, 1) := by decide +kernel
theorem dX8_laysWay_87 : decode cX8_laysWay 87 = .ok (.iload_n 1, 1) := by decide +kernel
theorem dX8_laysWay_88 : decode cX8_laysWay 88 = .ok (.ifCond .ne 14, 3) := by decide +kernel
theorem dX8_laysWay_91 : decode cX8_laysWay 91 = .ok (.lload_n 3, 1) := by decide +kernel
theorem dX8_laysWay_92 : decode cX8_laysWay 92 = .ok (.aload_n 0, 1) := by decide +kernel
theorem dX8_laysWay_93 : decode cX8_laysWay 93 = .ok (.getfield 118, 3) := by decide +kernel
theorem dX8_laysWay_96 : decode cX8_laysWay 96 = .ok (.iload_n 2, 1) := by decide +kernel
theorem dX8_laysWay_97 : decode cX8_laysWay 97 = .ok (.laload, 1) := by decide +kernel
theorem dX8_laysWay_98 : decode cX8_laysWay 98 = .ok (.lcmp, 1) := by decide +kernel
theorem dX8_laysWay_99 : decode cX8_laysWay 99 = .ok (.ifCond .eq 7, 3) := by decide +kernel
theorem dX8_laysWay_102 : decode cX8_laysWay 102 = .ok (.iconst 1, 1) := by decide +kernel
theorem dX8_laysWay_103 : decode cX8_laysWay 103 = .ok (.goto 4, 3) := by decide +kernel
theorem dX8_laysWay_106 : decode cX8_laysWay 106 = .ok (.iconst 0, 1) := by decide +kernel
theorem dX8_laysWay_107 : decode cX8_laysWay 107 = .ok (.istore_n 1, 1) := by decide +kernel
theorem dX8_laysWay_108 : decode cX8_laysWay 108 = .ok (.aload_n 0, 1) := by decide +kernel
theorem dX8_laysWay_109 : decode cX8_laysWay 109 = .ok (.getfield 118, 3) := by decide +kernel
theorem dX8_laysWay_112 : decode cX8_laysWay 112 = .ok (.iload_n 2, 1) := by decide +kernel
theorem dX8_laysWay_113 : decode cX8_laysWay 113 = .ok (.lload_n 3, 1) := by decide +kernel
theorem dX8_laysWay_114 : decode cX8_laysWay 114 = .ok (.lastore, 1) := by decide +kernel
theorem dX8_laysWay_115 : decode cX8_laysWay 115 = .ok (.iinc 2 1, 3) := by decide +kernel
theorem dX8_laysWay_118 : decode cX8_laysWay 118 = .ok (.goto (-85), 3) := by decide +kernel
theorem dX8_laysWay_121 : decode cX8_laysWay 121 = .ok (.goto (-96), 3) := by decide +kernel
theorem dX8_laysWay_124 : decode cX8_laysWay 124 = .ok (.iconst 0, 1) := by decide +kernel
theorem dX8_laysWay_125 : decode cX8_laysWay 125 = .ok (.istore_n 2, 1) := by decide +kernel
theorem dX8_laysWay_126 : decode cX8_laysWay 126 = .ok (.iload_n 2, 1) := by decide +kernel
theorem dX8_laysWay_127 : decode cX8_laysWay 127 = .ok (.aload_n 0, 1) := by decide +kernel
theorem dX8_laysWay_128 : decode cX8_laysWay 128 = .ok (.getfield 23, 3) := by decide +kernel
theorem dX8_laysWay_131 : decode cX8_laysWay 131 = .ok (.aload_n 0, 1) := by decide +kernel
theorem dX8_laysWay_132 : decode cX8_laysWay 132 = .ok (.getfield 187, 3) := by decide +kernel
theorem dX8_laysWay_135 : decode cX8_laysWay 135 = .ok (.iaload, 1) := by decide +kernel
theorem dX8_laysWay_136 : decode cX8_laysWay 136 = .ok (.if_icmp .ge 16, 3) := by decide +kernel
theorem dX8_laysWay_139 : decode cX8_laysWay 139 = .ok (.aload_n 0, 1) := by decide +kernel
theorem dX8_laysWay_140 : decode cX8_laysWay 140 = .ok (.getfield 115, 3) := by decide +kernel
theorem dX8_laysWay_143 : decode cX8_laysWay 143 = .ok (.iload_n 2, 1) := by decide +kernel
theorem dX8_laysWay_144 : decode cX8_laysWay 144 = .ok (.lconst 0, 1) := by decide +kernel
theorem dX8_laysWay_145 : decode cX8_laysWay 145 = .ok (.lastore, 1) := by decide +kernel
theorem dX8_laysWay_146 : decode cX8_laysWay 146 = .ok (.iinc 2 1, 3) := by decide +kernel
theorem dX8_laysWay_149 : decode cX8_laysWay 149 = .ok (.goto (-23), 3) := by decide +kernel
theorem dX8_laysWay_152 : decode cX8_laysWay 152 = .ok (.iconst 0, 1) := by decide +kernel
theorem dX8_laysWay_153 : decode cX8_laysWay 153 = .ok (.istore_n 2, 1) := by decide +kernel
theorem dX8_laysWay_154 : decode cX8_laysWay 154 = .ok (.iload_n 2, 1) := by decide +kernel
theorem dX8_laysWay_155 : decode cX8_laysWay 155 = .ok (.aload_n 0, 1) := by decide +kernel
theorem dX8_laysWay_156 : decode cX8_laysWay 156 = .ok (.getfield 23, 3) := by decide +kernel
theorem dX8_laysWay_159 : decode cX8_laysWay 159 = .ok (.aload_n 0, 1) := by decide +kernel
theorem dX8_laysWay_160 : decode cX8_laysWay 160 = .ok (.getfield 187, 3) := by decide +kernel
theorem dX8_laysWay_163 : decode cX8_laysWay 163 = .ok (.iaload, 1) := by decide +kernel
theorem dX8_laysWay_164 : decode cX8_laysWay 164 = .ok (.if_icmp .ge 119, 3) := by decide +kernel
theorem dX8_laysWay_167 : decode cX8_laysWay 167 = .ok (.aload_n 0, 1) := by decide +kernel
theorem dX8_laysWay_168 : decode cX8_laysWay 168 = .ok (.iload_n 2, 1) := by decide +kernel
theorem dX8_laysWay_169 : decode cX8_laysWay 169 = .ok (.invokevirtual 338, 3) := by decide +kernel
theorem dX8_laysWay_172 : decode cX8_laysWay 172 = .ok (.ifCond .ne 6, 3) := by decide +kernel
theorem dX8_laysWay_175 : decode cX8_laysWay 175 = .ok (.goto 102, 3) := by decide +kernel
theorem dX8_laysWay_178 : decode cX8_laysWay 178 = .ok (.aload_n 0, 1) := by decide +kernel
theorem dX8_laysWay_179 : decode cX8_laysWay 179 = .ok (.aload_n 0, 1) := by decide +kernel
theorem dX8_laysWay_180 : decode cX8_laysWay 180 = .ok (.iload_n 2, 1) := by decide +kernel
theorem dX8_laysWay_181 : decode cX8_laysWay 181 = .ok (.iconst 0, 1) := by decide +kernel
theorem dX8_laysWay_182 : decode cX8_laysWay 182 = .ok (.invokevirtual 331, 3) := by decide +kernel
theorem dX8_laysWay_185 : decode cX8_laysWay 185 = .ok (.invokevirtual 334, 3) := by decide +kernel
theorem dX8_laysWay_188 : decode cX8_laysWay 188 = .ok (.aload_n 0, 1) := by decide +kernel
theorem dX8_laysWay_189 : decode cX8_laysWay 189 = .ok (.aload_n 0, 1) := by decide +kernel
theorem dX8_laysWay_190 : decode cX8_laysWay 190 = .ok (.iload_n 2, 1) := by decide +kernel
theorem dX8_laysWay_191 : decode cX8_laysWay 191 = .ok (.iconst 1, 1) := by decide +kernel
theorem dX8_laysWay_192 : decode cX8_laysWay 192 = .ok (.invokevirtual 331, 3) := by decide +kernel
theorem dX8_laysWay_195 : decode cX8_laysWay 195 = .ok (.invokevirtual 334, 3) := by decide +kernel
theorem dX8_laysWay_198 : decode cX8_laysWay 198 = .ok (.lxor, 1) := by decide +kernel
theorem dX8_laysWay_199 : decode cX8_laysWay 199 = .ok (.lstore_n 3, 1) := by decide +kernel
theorem dX8_laysWay_200 : decode cX8_laysWay 200 = .ok (.iconst 0, 1) := by decide +kernel
theorem dX8_laysWay_201 : decode cX8_laysWay 201 = .ok (.istore 5, 2) := by decide +kernel
theorem dX8_laysWay_203 : decode cX8_laysWay 203 = .ok (.iload 5, 2) := by decide +kernel
theorem dX8_laysWay_205 : decode cX8_laysWay 205 = .ok (.aload_n 0, 1) := by decide +kernel
theorem dX8_laysWay_206 : decode cX8_laysWay 206 = .ok (.getfield 23, 3) := by decide +kernel
theorem dX8_laysWay_209 : decode cX8_laysWay 209 = .ok (.aload_n 0, 1) := by decide +kernel
theorem dX8_laysWay_210 : decode cX8_laysWay 210 = .ok (.getfield 187, 3) := by decide +kernel
theorem dX8_laysWay_213 : decode cX8_laysWay 213 = .ok (.iaload, 1) := by decide +kernel
theorem dX8_laysWay_214 : decode cX8_laysWay 214 = .ok (.if_icmp .ge 63, 3) := by decide +kernel
theorem dX8_laysWay_217 : decode cX8_laysWay 217 = .ok (.lload_n 3, 1) := by decide +kernel
theorem dX8_laysWay_218 : decode cX8_laysWay 218 = .ok (.iload 5, 2) := by decide +kernel
theorem dX8_laysWay_220 : decode cX8_laysWay 220 = .ok (.invokestatic 280, 3) := by decide +kernel
theorem dX8_laysWay_223 : decode cX8_laysWay 223 = .ok (.ifCond .ne 6, 3) := by decide +kernel
theorem dX8_laysWay_226 : decode cX8_laysWay 226 = .ok (.goto 45, 3) := by decide +kernel
theorem dX8_laysWay_229 : decode cX8_laysWay 229 = .ok (.aload_n 0, 1) := by decide +kernel
theorem dX8_laysWay_230 : decode cX8_laysWay 230 = .ok (.getfield 115, 3) := by decide +kernel
theorem dX8_laysWay_233 : decode cX8_laysWay 233 = .ok (.iload 5, 2) := by decide +kernel
theorem dX8_laysWay_235 : decode cX8_laysWay 235 = .ok (.dup2, 1) := by decide +kernel
theorem dX8_laysWay_236 : decode cX8_laysWay 236 = .ok (.laload, 1) := by decide +kernel
theorem dX8_laysWay_237 : decode cX8_laysWay 237 = .ok (.lconst 1, 1) := by decide +kernel
theorem dX8_laysWay_238 : decode cX8_laysWay 238 = .ok (.iload_n 2, 1) := by decide +kernel
theorem dX8_laysWay_239 : decode cX8_laysWay 239 = .ok (.lshl, 1) := by decide +kernel
theorem dX8_laysWay_240 : decode cX8_laysWay 240 = .ok (.lor, 1) := by decide +kernel
theorem dX8_laysWay_241 : decode cX8_laysWay 241 = .ok (.lastore, 1) := by decide +kernel
theorem dX8_laysWay_242 : decode cX8_laysWay 242 = .ok (.aload_n 0, 1) := by decide +kernel
theorem dX8_laysWay_243 : decode cX8_laysWay 243 = .ok (.iload 5, 2) := by decide +kernel
theorem dX8_laysWay_245 : decode cX8_laysWay 245 = .ok (.iconst 0, 1) := by decide +kernel
theorem dX8_laysWay_246 : decode cX8_laysWay 246 = .ok (.invokestatic 291, 3) := by decide +kernel
theorem dX8_laysWay_249 : decode cX8_laysWay 249 = .ok (.iload_n 2, 1) := by decide +kernel
theorem dX8_laysWay_250 : decode cX8_laysWay 250 = .ok (.aload_n 0, 1) := by decide +kernel
theorem dX8_laysWay_251 : decode cX8_laysWay 251 = .ok (.iload_n 2, 1) := by decide +kernel
theorem dX8_laysWay_252 : decode cX8_laysWay 252 = .ok (.invokevirtual 271, 3) := by decide +kernel
theorem dX8_laysWay_255 : decode cX8_laysWay 255 = .ok (.iconst 1, 1) := by decide +kernel
theorem dX8_laysWay_256 : decode cX8_laysWay 256 = .ok (.if_icmp .ne 8, 3) := by decide +kernel
theorem dX8_laysWay_259 : decode cX8_laysWay 259 = .ok (.bipush 8, 2) := by decide +kernel
theorem dX8_laysWay_261 : decode cX8_laysWay 261 = .ok (.goto 4, 3) := by decide +kernel
theorem dX8_laysWay_264 : decode cX8_laysWay 264 = .ok (.iconst 0, 1) := by decide +kernel
theorem dX8_laysWay_265 : decode cX8_laysWay 265 = .ok (.invokestatic 291, 3) := by decide +kernel
theorem dX8_laysWay_268 : decode cX8_laysWay 268 = .ok (.invokevirtual 303, 3) := by decide +kernel
theorem dX8_laysWay_271 : decode cX8_laysWay 271 = .ok (.iinc 5 1, 3) := by decide +kernel
theorem dX8_laysWay_274 : decode cX8_laysWay 274 = .ok (.goto (-71), 3) := by decide +kernel
theorem dX8_laysWay_277 : decode cX8_laysWay 277 = .ok (.iinc 2 1, 3) := by decide +kernel
theorem dX8_laysWay_280 : decode cX8_laysWay 280 = .ok (.goto (-126), 3) := by decide +kernel
theorem dX8_laysWay_283 : decode cX8_laysWay 283 = .ok (.iconst 0, 1) := by decide +kernel
theorem dX8_laysWay_284 : decode cX8_laysWay 284 = .ok (.istore_n 2, 1) := by decide +kernel
theorem dX8_laysWay_285 : decode cX8_laysWay 285 = .ok (.iload_n 2, 1) := by decide +kernel
theorem dX8_laysWay_286 : decode cX8_laysWay 286 = .ok (.aload_n 0, 1) := by decide +kernel
theorem dX8_laysWay_287 : decode cX8_laysWay 287 = .ok (.getfield 26, 3) := by decide +kernel
theorem dX8_laysWay_290 : decode cX8_laysWay 290 = .ok (.aload_n 0, 1) := by decide +kernel
theorem dX8_laysWay_291 : decode cX8_laysWay 291 = .ok (.getfield 187, 3) := by decide +kernel
theorem dX8_laysWay_294 : decode cX8_laysWay 294 = .ok (.iaload, 1) := by decide +kernel
theorem dX8_laysWay_295 : decode cX8_laysWay 295 = .ok (.if_icmp .ge 80, 3) := by decide +kernel
theorem dX8_laysWay_298 : decode cX8_laysWay 298 = .ok (.aload_n 0, 1) := by decide +kernel
theorem dX8_laysWay_299 : decode cX8_laysWay 299 = .ok (.getfield 121, 3) := by decide +kernel
theorem dX8_laysWay_302 : decode cX8_laysWay 302 = .ok (.iload_n 2, 1) := by decide +kernel
theorem dX8_laysWay_303 : decode cX8_laysWay 303 = .ok (.aload_n 0, 1) := by decide +kernel
theorem dX8_laysWay_304 : decode cX8_laysWay 304 = .ok (.aload_n 0, 1) := by decide +kernel
theorem dX8_laysWay_305 : decode cX8_laysWay 305 = .ok (.getfield 98, 3) := by decide +kernel
theorem dX8_laysWay_308 : decode cX8_laysWay 308 = .ok (.iconst 5, 1) := by decide +kernel
theorem dX8_laysWay_309 : decode cX8_laysWay 309 = .ok (.aload_n 0, 1) := by decide +kernel
theorem dX8_laysWay_310 : decode cX8_laysWay 310 = .ok (.getfield 187, 3) := by decide +kernel
theorem dX8_laysWay_313 : decode cX8_laysWay 313 = .ok (.imul, 1) := by decide +kernel
theorem dX8_laysWay_314 : decode cX8_laysWay 314 = .ok (.iload_n 2, 1) := by decide +kernel
theorem dX8_laysWay_315 : decode cX8_laysWay 315 = .ok (.iadd, 1) := by decide +kernel
theorem dX8_laysWay_316 : decode cX8_laysWay 316 = .ok (.iaload, 1) := by decide +kernel
theorem dX8_laysWay_317 : decode cX8_laysWay 317 = .ok (.invokevirtual 334, 3) := by decide +kernel
theorem dX8_laysWay_320 : decode cX8_laysWay 320 = .ok (.lastore, 1) := by decide +kernel
theorem dX8_laysWay_321 : decode cX8_laysWay 321 = .ok (.iconst 0, 1) := by decide +kernel
theorem dX8_laysWay_322 : decode cX8_laysWay 322 = .ok (.istore_n 3, 1) := by decide +kernel
theorem dX8_laysWay_323 : decode cX8_laysWay 323 = .ok (.iload_n 3, 1) := by decide +kernel
theorem dX8_laysWay_324 : decode cX8_laysWay 324 = .ok (.aload_n 0, 1) := by decide +kernel
theorem dX8_laysWay_325 : decode cX8_laysWay 325 = .ok (.getfield 23, 3) := by decide +kernel
theorem dX8_laysWay_328 : decode cX8_laysWay 328 = .ok (.aload_n 0, 1) := by decide +kernel
theorem dX8_laysWay_329 : decode cX8_laysWay 329 = .ok (.getfield 187, 3) := by decide +kernel
theorem dX8_laysWay_332 : decode cX8_laysWay 332 = .ok (.iaload, 1) := by decide +kernel
theorem dX8_laysWay_333 : decode cX8_laysWay 333 = .ok (.if_icmp .ge 36, 3) := by decide +kernel
theorem dX8_laysWay_336 : decode cX8_laysWay 336 = .ok (.aload_n 0, 1) := by decide +kernel
theorem dX8_laysWay_337 : decode cX8_laysWay 337 = .ok (.getfield 121, 3) := by decide +kernel
theorem dX8_laysWay_340 : decode cX8_laysWay 340 = .ok (.iload_n 2, 1) := by decide +kernel
theorem dX8_laysWay_341 : decode cX8_laysWay 341 = .ok (.laload, 1) := by decide +kernel
theorem dX8_laysWay_342 : decode cX8_laysWay 342 = .ok (.iload_n 3, 1) := by decide +kernel
theorem dX8_laysWay_343 : decode cX8_laysWay 343 = .ok (.invokestatic 280, 3) := by decide +kernel
theorem dX8_laysWay_346 : decode cX8_laysWay 346 = .ok (.ifCond .eq 17, 3) := by decide +kernel
theorem dX8_laysWay_349 : decode cX8_laysWay 349 = .ok (.aload_n 0, 1) := by decide +kernel
theorem dX8_laysWay_350 : decode cX8_laysWay 350 = .ok (.iload_n 3, 1) := by decide +kernel
theorem dX8_laysWay_351 : decode cX8_laysWay 351 = .ok (.iconst 0, 1) := by decide +kernel
theorem dX8_laysWay_352 : decode cX8_laysWay 352 = .ok (.invokestatic 291, 3) := by decide +kernel
theorem dX8_laysWay_355 : decode cX8_laysWay 355 = .ok (.iload_n 2, 1) := by decide +kernel
theorem dX8_laysWay_356 : decode cX8_laysWay 356 = .ok (.iconst 0, 1) := by decide +kernel
theorem dX8_laysWay_357 : decode cX8_laysWay 357 = .ok (.invokestatic 300, 3) := by decide +kernel
theorem dX8_laysWay_360 : decode cX8_laysWay 360 = .ok (.invokevirtual 303, 3) := by decide +kernel
theorem dX8_laysWay_363 : decode cX8_laysWay 363 = .ok (.iinc 3 1, 3) := by decide +kernel
theorem dX8_laysWay_366 : decode cX8_laysWay 366 = .ok (.goto (-43), 3) := by decide +kernel
theorem dX8_laysWay_369 : decode cX8_laysWay 369 = .ok (.iinc 2 1, 3) := by decide +kernel
theorem dX8_laysWay_372 : decode cX8_laysWay 372 = .ok (.goto (-87), 3) := by decide +kernel
theorem dX8_laysWay_375 : decode cX8_laysWay 375 = .ok (.iconst 0, 1) := by decide +kernel
theorem dX8_laysWay_376 : decode cX8_laysWay 376 = .ok (.istore_n 2, 1) := by decide +kernel
theorem dX8_laysWay_377 : decode cX8_laysWay 377 = .ok (.iload_n 2, 1) := by decide +kernel
theorem dX8_laysWay_378 : decode cX8_laysWay 378 = .ok (.aload_n 0, 1) := by decide +kernel
theorem dX8_laysWay_379 : decode cX8_laysWay 379 = .ok (.getfield 23, 3) := by decide +kernel
theorem dX8_laysWay_382 : decode cX8_laysWay 382 = .ok (.aload_n 0, 1) := by decide +kernel
theorem dX8_laysWay_383 : decode cX8_laysWay 383 = .ok (.getfield 187, 3) := by decide +kernel
theorem dX8_laysWay_386 : decode cX8_laysWay 386 = .ok (.iaload, 1) := by decide +kernel
theorem dX8_laysWay_387 : decode cX8_laysWay 387 = .ok (.if_icmp .ge 46, 3) := by decide +kernel
theorem dX8_laysWay_390 : decode cX8_laysWay 390 = .ok (.iconst 1, 1) := by decide +kernel
theorem dX8_laysWay_391 : decode cX8_laysWay 391 = .ok (.istore_n 3, 1) := by decide +kernel
theorem dX8_laysWay_392 : decode cX8_laysWay 392 = .ok (.iload_n 3, 1) := by decide +kernel
theorem dX8_laysWay_393 : decode cX8_laysWay 393 = .ok (.bipush 13, 2) := by decide +kernel
theorem dX8_laysWay_395 : decode cX8_laysWay 395 = .ok (.if_icmp .ge 32, 3) := by decide +kernel
theorem dX8_laysWay_398 : decode cX8_laysWay 398 = .ok (.aload_n 0, 1) := by decide +kernel
theorem dX8_laysWay_399 : decode cX8_laysWay 399 = .ok (.iload_n 2, 1) := by decide +kernel
theorem dX8_laysWay_400 : decode cX8_laysWay 400 = .ok (.invokevirtual 271, 3) := by decide +kernel
theorem dX8_laysWay_403 : decode cX8_laysWay 403 = .ok (.iconst 1, 1) := by decide +kernel
theorem dX8_laysWay_404 : decode cX8_laysWay 404 = .ok (.if_icmp .ne 23, 3) := by decide +kernel
theorem dX8_laysWay_407 : decode cX8_laysWay 407 = .ok (.aload_n 0, 1) := by decide +kernel
theorem dX8_laysWay_408 : decode cX8_laysWay 408 = .ok (.iload_n 2, 1) := by decide +kernel
theorem dX8_laysWay_409 : decode cX8_laysWay 409 = .ok (.iload_n 3, 1) := by decide +kernel
theorem dX8_laysWay_410 : decode cX8_laysWay 410 = .ok (.invokestatic 291, 3) := by decide +kernel
theorem dX8_laysWay_413 : decode cX8_laysWay 413 = .ok (.iload_n 2, 1) := by decide +kernel
theorem dX8_laysWay_414 : decode cX8_laysWay 414 = .ok (.iconst 0, 1) := by decide +kernel
theorem dX8_laysWay_415 : decode cX8_laysWay 415 = .ok (.invokestatic 291, 3) := by decide +kernel
theorem dX8_laysWay_418 : decode cX8_laysWay 418 = .ok (.invokevirtual 303, 3) := by decide +kernel
theorem dX8_laysWay_421 : decode cX8_laysWay 421 = .ok (.iinc 3 1, 3) := by decide +kernel
theorem dX8_laysWay_424 : decode cX8_laysWay 424 = .ok (.goto (-32), 3) := by decide +kernel
theorem dX8_laysWay_427 : decode cX8_laysWay 427 = .ok (.iinc 2 1, 3) := by decide +kernel
theorem dX8_laysWay_430 : decode cX8_laysWay 430 = .ok (.goto (-53), 3) := by decide +kernel
theorem dX8_laysWay_433 : decode cX8_laysWay 433 = .ok (.return_, 1) := by decide +kernel
set_option maxHeartbeats 4000000 in
set_option maxRecDepth 100000 in
theorem s_X8_onAllFrom_x (l : Launch) (d : Nat) {P : PP} {h : HP} (hv : Iv P h) (a2 : Int32) (a2l : -1 ≤ a2.toInt) (a2u : a2.toInt ≤ 39) : Mt l yX8_onAllFrom cX8_onAllFrom 2 (some .long) (d + 1) [.ref 70, .int a2] h 0 0 (fun r h' => ∃ v : Int64, r = some (.long v) ∧ h = h' ∧ (v = oa h.2.2.1 a2.toInt)) := by
  refine Mt_iv hv (by decide) (Nat.le_of_ble_eq_true rfl) ?_
  show Go l RX8 cX8_onAllFrom 2 (g_rm (d + 1) 0 0) "onAllFrom" (some .long) 117 0 0 (fun _ _ => True) (fun r h' => ∃ v : Int64, r = some (.long v) ∧ h = h' ∧ (v = oa h.2.2.1 a2.toInt)) 0 0 [(0, .ref 70), (1, .int a2)] [] h
  refine go_iload_n (pc := 0) rfl dX8_onAllFrom_0 ?_
  refine go_iconst (pc := 1) (v := (-1)) (by decide) dX8_onAllFrom_1 ?_
  refine gf_icmp_ne (pc := 2) (tgt := 9) (ti_rfl a2) (ti_c (v := (-1)) (a := (-1)) (by decide)) (by decide) dX8_onAllFrom_2 (fun q1 => ?_) (fun q1 => ?_)
  ·
    refine go_aload_n (pc := 9) rfl dX8_onAllFrom_9 ?_
    refine gi_getF (pc := 10) (q := 106) hv fL_X8_118 rfl (Nat.le_of_ble_eq_true rfl) rfl (hv.rf (by decide)) dX8_onAllFrom_10 ?_
    refine go_iload_n (pc := 13) rfl dX8_onAllFrom_13 ?_
    refine gi_lald (pc := 14) (len := 40) hv (ti_rfl a2) rfl (by omega) (by omega) dX8_onAllFrom_14 (fun v2 v2w => ?_)
    exact gi_lret (pc := 15) ⟨_, rfl, rfl, (by unfold oa; rw [if_neg (by omega)]; exact v2w)⟩ hv dX8_onAllFrom_15
  ·
    refine go_lconst (pc := 5) (v := 0) (by decide) dX8_onAllFrom_5 ?_
    refine go_goto (pc := 6) (tgt := 15) (by decide) dX8_onAllFrom_6 ?_
    exact gi_lret (pc := 15) ⟨_, rfl, rfl, (by unfold oa; rw [if_pos (by omega)])⟩ hv dX8_onAllFrom_15
set_option maxHeartbeats 4000000 in
set_option maxRecDepth 100000 in
theorem s_X8_decides_x (l : Launch) (d : Nat) {P : PP} {h : HP} (hv : Iv P h) (a2 : Int32) (a2l : 0 ≤ a2.toInt) (a2u : a2.toInt ≤ 39) (ckf : CKF h.2.1) : Mt l yX8_decides cX8_decides 3 (some .boolean) (d + 4) [.ref 70, .int a2] h 0 0 (fun r h' => ∃ v : Int32, r = some (.int v) ∧ 0 ≤ v.toInt ∧ v.toInt ≤ 1 ∧ h = h' ∧ (v.toInt = 1 → V h.2.1 77 (V h.2.1 93 (40 * (h.2.1 70 6).toInt + a2.toInt)) = 2 ∨ V h.2.1 77 (V h.2.1 93 (40 * (h.2.1 70 6).toInt + a2.toInt)) = 3 ∨ V h.2.1 77 (V h.2.1 93 (40 * (h.2.1 70 6).toInt + a2.toInt)) = 4 ∨ V h.2.1 77 (V h.2.1 93 (40 * (h.2.1 70 6).toInt + a2.toInt)) = 5 ∨ (V h.2.1 77 (V h.2.1 93 (40 * (h.2.1 70 6).toInt + a2.toInt)) = 1 ∧ V h.2.1 102 (5 * (h.2.1 70 6).toInt + V h.2.1 84 (V h.2.1 93 (40 * (h.2.1 70 6).toInt + a2.toInt))) = 1))) := by
  refine Mt_iv hv (by decide) (Nat.le_of_ble_eq_true rfl) ?_
  show Go l RX8 cX8_decides 3 (g_rm (d + 4) 0 0) "decides" (some .boolean) 117 0 0 (fun _ _ => True) (fun r h' => ∃ v : Int32, r = some (.int v) ∧ 0 ≤ v.toInt ∧ v.toInt ≤ 1 ∧ h = h' ∧ (v.toInt = 1 → V h.2.1 77 (V h.2.1 93 (40 * (h.2.1 70 6).toInt + a2.toInt)) = 2 ∨ V h.2.1 77 (V h.2.1 93 (40 * (h.2.1 70 6).toInt + a2.toInt)) = 3 ∨ V h.2.1 77 (V h.2.1 93 (40 * (h.2.1 70 6).toInt + a2.toInt)) = 4 ∨ V h.2.1 77 (V h.2.1 93 (40 * (h.2.1 70 6).toInt + a2.toInt)) = 5 ∨ (V h.2.1 77 (V h.2.1 93 (40 * (h.2.1 70 6).toInt + a2.toInt)) = 1 ∧ V h.2.1 102 (5 * (h.2.1 70 6).toInt + V h.2.1 84 (V h.2.1 93 (40 * (h.2.1 70 6).toInt + a2.toInt))) = 1))) 0 0 [(0, .ref 70), (1, .int a2)] [] h
  obtain ⟨S, hS⟩ : ∃ S : Int, S = (h.2.1 70 6).toInt := ⟨_, rfl⟩
  have S0 : 0 ≤ S := by rw [hS]; exact (hv.2.1 70 6).1
  have S1 : S ≤ 1 := by rw [hS]; exact (hv.2.1 70 6).2
  refine go_aload_n (pc := 0) rfl dX8_decides_0 ?_
  refine go_iload_n (pc := 1) rfl dX8_decides_1 ?_
  refine go_invV (pc := 2) (sl := 0) (s_X8_kindAt l (d + 1) hv a2 (by rw [show (a2 : Int32).toInt = a2.toInt from (ti_rfl a2)]; omega) (by rw [show (a2 : Int32).toInt = a2.toInt from (ti_rfl a2)]; omega)) mL_X8_271 iM_X8_kindAt sM_X8_kindAt (hv.sh rfl) rfl rfl rfl (Nat.le_of_ble_eq_true rfl) (show d + 1 + 2 + 1 ≤ d + 4 by omega) (show 8 + (2 + 11) + 40 * (d + 1 + 2) ≤ 40 * (d + 4) by omega) (g_c0 hv.ln) (Nat.le_of_ble_eq_true rfl) dX8_decides_2 ?_
  intro r h1 hq _
  obtain ⟨v3, rfl, v3l, v3u, rfl, f2⟩ := hq
  have v3K : v3.toInt = V h.2.1 77 (V h.2.1 93 (40 * S + a2.toInt)) := by rw [f2]; unfold g_kd g_it; rw [← hS]; rfl
  refine go_istore_n (pc := 5) (Nat.le_of_ble_eq_true rfl) dX8_decides_5 (go_lv (lv2 := [(0, .ref 70), (1, .int a2), (2, .int v3)]) rfl ?_)
  refine go_iload_n (pc := 6) rfl dX8_decides_6 ?_
  refine go_iconst (pc := 7) (v := 2) (by decide) dX8_decides_7 ?_
  refine gf_icmp_eq (pc := 8) (tgt := 34) (ti_rfl v3) (ti_c (v := 2) (a := 2) (by decide)) (by decide) dX8_decides_8 (fun q4 => ?_) (fun q4 => ?_)
  ·
    refine go_iconst (pc := 34) (v := 1) (by decide) dX8_decides_34 ?_
    refine go_goto (pc := 35) (tgt := 39) (by decide) dX8_decides_35 ?_
    exact gi_zret (pc := 39) (ti_c (v := 1) (a := 1) (by decide)) (by omega) (by omega) ⟨_, rfl, (by rw [show (1 : Int32).toInt = 1 from (ti_c (v := 1) (a := 1) (by decide))]; omega), (by rw [show (1 : Int32).toInt = 1 from (ti_c (v := 1) (a := 1) (by decide))]; omega), rfl, (by rw [← hS]; exact fun _ => by omega)⟩ hv dX8_decides_39
  ·
    refine go_iload_n (pc := 11) rfl dX8_decides_11 ?_
    refine go_iconst (pc := 12) (v := 3) (by decide) dX8_decides_12 ?_
    refine gf_icmp_eq (pc := 13) (tgt := 34) (ti_rfl v3) (ti_c (v := 3) (a := 3) (by decide)) (by decide) dX8_decides_13 (fun q5 => ?_) (fun q5 => ?_)
    ·
      refine go_iconst (pc := 34) (v := 1) (by decide) dX8_decides_34 ?_
      refine go_goto (pc := 35) (tgt := 39) (by decide) dX8_decides_35 ?_
      exact gi_zret (pc := 39) (ti_c (v := 1) (a := 1) (by decide)) (by omega) (by omega) ⟨_, rfl, (by rw [show (1 : Int32).toInt = 1 from (ti_c (v := 1) (a := 1) (by decide))]; omega), (by rw [show (1 : Int32).toInt = 1 from (ti_c (v := 1) (a := 1) (by decide))]; omega), rfl, (by rw [← hS]; exact fun _ => by omega)⟩ hv dX8_decides_39
    ·
      refine go_iload_n (pc := 16) rfl dX8_decides_16 ?_
      refine go_iconst (pc := 17) (v := 5) (by decide) dX8_decides_17 ?_
      refine gf_icmp_eq (pc := 18) (tgt := 34) (ti_rfl v3) (ti_c (v := 5) (a := 5) (by decide)) (by decide) dX8_decides_18 (fun q6 => ?_) (fun q6 => ?_)
      ·
        refine go_iconst (pc := 34) (v := 1) (by decide) dX8_decides_34 ?_
        refine go_goto (pc := 35) (tgt := 39) (by decide) dX8_decides_35 ?_
        exact gi_zret (pc := 39) (ti_c (v := 1) (a := 1) (by decide)) (by omega) (by omega) ⟨_, rfl, (by rw [show (1 : Int32).toInt = 1 from (ti_c (v := 1) (a := 1) (by decide))]; omega), (by rw [show (1 : Int32).toInt = 1 from (ti_c (v := 1) (a := 1) (by decide))]; omega), rfl, (by rw [← hS]; exact fun _ => by omega)⟩ hv dX8_decides_39
      ·
        refine go_iload_n (pc := 21) rfl dX8_decides_21 ?_
        refine go_iconst (pc := 22) (v := 4) (by decide) dX8_decides_22 ?_
        refine gf_icmp_eq (pc := 23) (tgt := 34) (ti_rfl v3) (ti_c (v := 4) (a := 4) (by decide)) (by decide) dX8_decides_23 (fun q7 => ?_) (fun q7 => ?_)
        ·
          refine go_iconst (pc := 34) (v := 1) (by decide) dX8_decides_34 ?_
          refine go_goto (pc := 35) (tgt := 39) (by decide) dX8_decides_35 ?_
          exact gi_zret (pc := 39) (ti_c (v := 1) (a := 1) (by decide)) (by omega) (by omega) ⟨_, rfl, (by rw [show (1 : Int32).toInt = 1 from (ti_c (v := 1) (a := 1) (by decide))]; omega), (by rw [show (1 : Int32).toInt = 1 from (ti_c (v := 1) (a := 1) (by decide))]; omega), rfl, (by rw [← hS]; exact fun _ => by omega)⟩ hv dX8_decides_39
        ·
          refine go_aload_n (pc := 26) rfl dX8_decides_26 ?_
          refine go_iload_n (pc := 27) rfl dX8_decides_27 ?_
          have sM8 : (h.2.1 70 6).toInt = S := by rw [hv.fy (j := 6) (by omega), ← hv.fy (j := 6) (by omega)]; exact hS.symm
          refine go_invV (pc := 28) (sl := 0) (s_X8_isThrowing_x l (d + 0) hv a2 (by rw [show (a2 : Int32).toInt = a2.toInt from (ti_rfl a2)]; omega) (by rw [show (a2 : Int32).toInt = a2.toInt from (ti_rfl a2)]; omega) ckf) mL_X8_277 iM_X8_isThrowing sM_X8_isThrowing (hv.sh rfl) rfl rfl rfl (Nat.le_of_ble_eq_true rfl) (show d + 0 + 3 + 1 ≤ d + 4 by omega) (show 8 + (2 + 11) + 40 * (d + 0 + 3) ≤ 40 * (d + 4) by omega) (g_c0 hv.ln) (Nat.le_of_ble_eq_true rfl) dX8_decides_28 ?_
          intro r h9 hq _
          obtain ⟨v11, rfl, v11l, v11u, rfl, f10⟩ := hq
          rw [sM8] at f10
          refine gf_if_eq (pc := 31) (tgt := 38) (ti_rfl v11) (by decide) dX8_decides_31 (fun q12 => ?_) (fun q12 => ?_)
          ·
            refine go_iconst (pc := 38) (v := 0) (by decide) dX8_decides_38 ?_
            exact gi_zret (pc := 39) (ti_c (v := 0) (a := 0) (by decide)) (by omega) (by omega) ⟨_, rfl, (by rw [show (0 : Int32).toInt = 0 from (ti_c (v := 0) (a := 0) (by decide))]; omega), (by rw [show (0 : Int32).toInt = 0 from (ti_c (v := 0) (a := 0) (by decide))]; omega), rfl, (fun q => absurd q (by decide))⟩ hv dX8_decides_39
          ·
            refine go_iconst (pc := 34) (v := 1) (by decide) dX8_decides_34 ?_
            refine go_goto (pc := 35) (tgt := 39) (by decide) dX8_decides_35 ?_
            exact gi_zret (pc := 39) (ti_c (v := 1) (a := 1) (by decide)) (by omega) (by omega) ⟨_, rfl, (by rw [show (1 : Int32).toInt = 1 from (ti_c (v := 1) (a := 1) (by decide))]; omega), (by rw [show (1 : Int32).toInt = 1 from (ti_c (v := 1) (a := 1) (by decide))]; omega), rfl, (by rw [← hS]; exact fun _ => by omega)⟩ hv dX8_decides_39
set_option maxHeartbeats 4000000 in
set_option maxRecDepth 100000 in
theorem s_X8_laysWay (l : Launch) (d : Nat) {P : PP} {h : HP} (hv : Iv P h) (ckf : CKF h.2.1) (hwi : WI h.2.1 (h.2.1 70 6).toInt) : Mt l yX8_laysWay cX8_laysWay 6 none (d + 6) [.ref 70] h 0 0 (fun r h' => r = none ∧ Iv P h') := by
  refine Mt_iv hv (by decide) (Nat.le_of_ble_eq_true rfl) ?_
  show Go l RX8 cX8_laysWay 6 (g_rm (d + 6) 0 0) "laysWay" none 117 0 0 (fun _ _ => True) (fun r h' => r = none ∧ Iv P h') 0 0 [(0, .ref 70)] [] h
  obtain ⟨S, hS⟩ : ∃ S : Int, S = (h.2.1 70 6).toInt := ⟨_, rfl⟩
  have S0 : 0 ≤ S := by rw [hS]; exact (hv.2.1 70 6).1
  have S1 : S ≤ 1 := by rw [hS]; exact (hv.2.1 70 6).2
  rw [← hS] at hwi
  have key : ∀ n : Nat, (∀ (l1 : Int32) (hx : HP), Iv P hx → 0 ≤ l1.toInt → l1.toInt ≤ 40 → (∀ j : Nat, (j : Int) < l1.toInt → hx.2.2.1 106 j = -1) → (1000000000000000000000000 + (40 - l1.toInt) : Int) < n → Go l RX8 cX8_laysWay 6 (g_rm (d + 6) 0 0) "laysWay" none 117 0 0 (fun _ _ => True) (fun r h' => r = none ∧ Iv P h') 0 2 [(0, .ref 70), (1, .int l1)] [] hx) ∧ (∀ (l1 : Int32) (hx : HP), Iv P hx → 0 ≤ l1.toInt → l1.toInt ≤ 1 → (SH h.2.1 hx.2.2.1 S) → (0 ≤ uu hx.2.2.1 ∧ uu hx.2.2.1 ≤ 40 * 18446744073709551616) → (1000 * uu hx.2.2.1 + 1000 * l1.toInt + 100000 : Int) < n → Go l RX8 cX8_laysWay 6 (g_rm (d + 6) 0 0) "laysWay" none 117 0 0 (fun _ _ => True) (fun r h' => r = none ∧ Iv P h') 0 25 [(0, .ref 70), (1, .int l1)] [] hx) ∧ (∀ (l1 : Int32) (l2 : Int32) (hx : HP), Iv P hx → 0 ≤ l1.toInt → l1.toInt ≤ 1 → 0 ≤ l2.toInt → l2.toInt ≤ 40 → (SH h.2.1 hx.2.2.1 S) → (0 ≤ uu hx.2.2.1 ∧ uu hx.2.2.1 ≤ 40 * 18446744073709551616) → (1000 * uu hx.2.2.1 + 1000 * l1.toInt + 100100 + 10 * (40 - l2.toInt) : Int) < n → Go l RX8 cX8_laysWay 6 (g_rm (d + 6) 0 0) "laysWay" none 117 0 0 (fun _ _ => True) (fun r h' => r = none ∧ Iv P h') 0 33 [(0, .ref 70), (1, .int l1), (2, .int l2)] [] hx) ∧ (∀ (l2 : Int32) (hx : HP), Iv P hx → 0 ≤ l2.toInt → l2.toInt ≤ 40 → (50000 + (40 - l2.toInt) : Int) < n → Go l RX8 cX8_laysWay 6 (g_rm (d + 6) 0 0) "laysWay" none 117 0 0 (fun _ _ => True) (fun r h' => r = none ∧ Iv P h') 0 126 [(0, .ref 70), (2, .int l2)] [] hx) ∧ (∀ (l2 : Int32) (hx : HP), Iv P hx → 0 ≤ l2.toInt → l2.toInt ≤ 40 → (10000 + 100 * (40 - l2.toInt) + 50 : Int) < n → Go l RX8 cX8_laysWay 6 (g_rm (d + 6) 0 0) "laysWay" none 117 0 0 (fun _ _ => True) (fun r h' => r = none ∧ Iv P h') 0 154 [(0, .ref 70), (2, .int l2)] [] hx) ∧ (∀ (l2 : Int32) (l3 : Int64) (l5 : Int32) (hx : HP), Iv P hx → 0 ≤ l2.toInt → l2.toInt ≤ 39 → 0 ≤ l5.toInt → l5.toInt ≤ 40 → (10000 + 100 * (40 - l2.toInt) + (40 - l5.toInt) : Int) < n → Go l RX8 cX8_laysWay 6 (g_rm (d + 6) 0 0) "laysWay" none 117 0 0 (fun _ _ => True) (fun r h' => r = none ∧ Iv P h') 0 203 [(0, .ref 70), (2, .int l2), (3, .long l3), (5, .int l5)] [] hx) ∧ (∀ (l2 : Int32) (hx : HP), Iv P hx → 0 ≤ l2.toInt → l2.toInt ≤ 5 → (2000 + 100 * (5 - l2.toInt) + 50 : Int) < n → Go l RX8 cX8_laysWay 6 (g_rm (d + 6) 0 0) "laysWay" none 117 0 0 (fun _ _ => True) (fun r h' => r = none ∧ Iv P h') 0 285 [(0, .ref 70), (2, .int l2)] [] hx) ∧ (∀ (l2 : Int32) (l3 : Int32) (hx : HP), Iv P hx → 0 ≤ l2.toInt → l2.toInt ≤ 4 → 0 ≤ l3.toInt → l3.toInt ≤ 40 → (2000 + 100 * (5 - l2.toInt) + (40 - l3.toInt) : Int) < n → Go l RX8 cX8_laysWay 6 (g_rm (d + 6) 0 0) "laysWay" none 117 0 0 (fun _ _ => True) (fun r h' => r = none ∧ Iv P h') 0 323 [(0, .ref 70), (2, .int l2), (3, .int l3)] [] hx) ∧ (∀ (l2 : Int32) (hx : HP), Iv P hx → 0 ≤ l2.toInt → l2.toInt ≤ 40 → (20 * (40 - l2.toInt) + 19 : Int) < n → Go l RX8 cX8_laysWay 6 (g_rm (d + 6) 0 0) "laysWay" none 117 0 0 (fun _ _ => True) (fun r h' => r = none ∧ Iv P h') 0 377 [(0, .ref 70), (2, .int l2)] [] hx) ∧ (∀ (l2 : Int32) (l3 : Int32) (hx : HP), Iv P hx → 0 ≤ l2.toInt → l2.toInt ≤ 39 → 1 ≤ l3.toInt → l3.toInt ≤ 13 → (20 * (40 - l2.toInt) + (13 - l3.toInt) : Int) < n → Go l RX8 cX8_laysWay 6 (g_rm (d + 6) 0 0) "laysWay" none 117 0 0 (fun _ _ => True) (fun r h' => r = none ∧ Iv P h') 0 392 [(0, .ref 70), (2, .int l2), (3, .int l3)] [] hx) := by
    intro n
    induction n with
    | zero => exact ⟨(by intros; omega), (by intros; omega), (by intros; omega), (by intros; omega), (by intros; omega), (by intros; omega), (by intros; omega), (by intros; omega), (by intros; omega), (by intros; omega)⟩
    | succ n ih =>
      refine ⟨?_, ?_, ?_, ?_, ?_, ?_, ?_, ?_, ?_, ?_⟩
      ·
        intro l1 hx hvx l1l l1u x0 hm
        have n75 : V h.2.1 75 S ≤ 40 := (hv.2.1 75 _).2
        have uuz := uu_hi hx.2.2.1
        refine go_iload_n (pc := 2) rfl dX8_laysWay_2 ?_
        refine go_bipush (pc := 3) (v := 40) (by decide) dX8_laysWay_3 ?_
        refine gf_icmp_ge (pc := 5) (tgt := 23) (ti_rfl l1) (ti_c (v := 40) (a := 40) (by decide)) (by decide) dX8_laysWay_5 (fun q1 => ?_) (fun q1 => ?_)
        ·
          refine go_iconst (pc := 23) (v := 1) (by decide) dX8_laysWay_23 ?_
          refine go_istore_n (pc := 24) (Nat.le_of_ble_eq_true rfl) dX8_laysWay_24 (go_lv (lv2 := [(0, .ref 70), (1, .int 1)]) rfl ?_)
          have z2 : (1 : Int32).toInt = 1 := (ti_c (v := 1) (a := 1) (by decide))
          exact go_lv rfl (ih.2.1 1 hx hvx (by omega) (by omega) (SH.init (fun j q => x0 j (by omega)) n75) (uu_hi _) (by omega))
        ·
          refine go_aload_n (pc := 8) rfl dX8_laysWay_8 ?_
          refine gi_getF (pc := 9) (q := 106) hvx fL_X8_118 rfl (Nat.le_of_ble_eq_true rfl) rfl (hvx.rf (by decide)) dX8_laysWay_9 ?_
          refine go_iload_n (pc := 12) rfl dX8_laysWay_12 ?_
          refine go_ldc2 (pc := 13) kL_X8_329 dX8_laysWay_13 ?_
          refine gi_last (pc := 16) (len := 40) hvx (ti_rfl l1) rfl (by omega) (by omega) dX8_laysWay_16 (fun h3 hv3 hv3e => ?_)
          refine gf_iinc (pc := 17) (Nat.le_of_ble_eq_true rfl) rfl (ti_rfl l1) (ti_c (by decide)) (by omega) (by omega) dX8_laysWay_17 (fun v4 e5 => ?_)
          refine go_lv (lv2 := [(0, .ref 70), (1, .int v4)]) rfl ?_
          refine go_goto (pc := 20) (tgt := 2) (by decide) dX8_laysWay_20 ?_
          have z6 : (v4 : Int32).toInt = (l1.toInt + 1) := e5
          exact go_lv rfl (ih.1 v4 h3 hv3 (by omega) (by omega) (fun j q => by rw [hv3e]; show (if 106 = 106 ∧ j = (l1.toInt).toNat then -1 else hx.2.2.1 106 j) = -1; by_cases w : j = (l1.toInt).toNat; (rw [if_pos ⟨rfl, w⟩]); (rw [if_neg (by omega)]; exact x0 j (by omega))) (by omega))
      ·
        intro l1 hx hvx l1l l1u x0 x1 hm
        refine go_iload_n (pc := 25) rfl dX8_laysWay_25 ?_
        refine gf_if_eq (pc := 26) (tgt := 124) (ti_rfl l1) (by decide) dX8_laysWay_26 (fun q7 => ?_) (fun q7 => ?_)
        ·
          refine go_iconst (pc := 124) (v := 0) (by decide) dX8_laysWay_124 ?_
          refine go_istore_n (pc := 125) (Nat.le_of_ble_eq_true rfl) dX8_laysWay_125 (go_lv (lv2 := [(0, .ref 70), (1, .int l1), (2, .int 0)]) rfl ?_)
          have z8 : (0 : Int32).toInt = 0 := (ti_c (v := 0) (a := 0) (by decide))
          exact go_lv rfl (ih.2.2.2.1 0 hx hvx (by omega) (by omega) (by omega))
        ·
          refine go_iconst (pc := 29) (v := 0) (by decide) dX8_laysWay_29 ?_
          refine go_istore_n (pc := 30) (Nat.le_of_ble_eq_true rfl) dX8_laysWay_30 (go_lv (lv2 := [(0, .ref 70), (1, .int 0)]) rfl ?_)
          refine go_iconst (pc := 31) (v := 0) (by decide) dX8_laysWay_31 ?_
          refine go_istore_n (pc := 32) (Nat.le_of_ble_eq_true rfl) dX8_laysWay_32 (go_lv (lv2 := [(0, .ref 70), (1, .int 0), (2, .int 0)]) rfl ?_)
          have z9 : (0 : Int32).toInt = 0 := (ti_c (v := 0) (a := 0) (by decide))
          have z10 : (0 : Int32).toInt = 0 := (ti_c (v := 0) (a := 0) (by decide))
          exact go_lv rfl (ih.2.2.1 0 0 hx hvx (by omega) (by omega) (by omega) (by omega) x0 (uu_hi _) (by omega))
      ·
        intro l1 l2 hx hvx l1l l1u l2l l2u x0 x1 hm
        refine go_iload_n (pc := 33) rfl dX8_laysWay_33 ?_
        refine go_aload_n (pc := 34) rfl dX8_laysWay_34 ?_
        refine gi_getF (pc := 35) (q := 75) hvx fL_X8_23 rfl (Nat.le_of_ble_eq_true rfl) rfl (hvx.rf (by decide)) dX8_laysWay_35 ?_
        refine go_aload_n (pc := 38) rfl dX8_laysWay_38 ?_
        refine gi_get (pc := 39) (lo := 0) (hi := 1) hvx fL_X8_187 rfl (Nat.le_of_ble_eq_true rfl) rfl rfl dX8_laysWay_39 (fun v11 v11l v11u v11w => ?_)
        have v11S : v11.toInt = S := by rw [v11w, hvx.fy (j := 6) (by omega), ← hv.fy (j := 6) (by omega)]; exact hS.symm
        refine gi_iald (pc := 42) (lo := 0) (hi := 40) (len := 2) hvx (ti_rfl v11) rfl (by omega) (by omega) (fun _ => rfl) dX8_laysWay_42 (fun v12 v12l v12u v12w => ?_)
        have v12V : v12.toInt = V h.2.1 75 S := by rw [v12w, v11S, hvx.fz (c := 75) (by omega) (by omega), ← hv.fz (c := 75) (by omega) (by omega)]; rfl
        refine gf_icmp_ge (pc := 43) (tgt := 121) (ti_rfl l2) (ti_rfl v12) (by decide) dX8_laysWay_43 (fun q13 => ?_) (fun q13 => ?_)
        ·
          refine go_goto (pc := 121) (tgt := 25) (by decide) dX8_laysWay_121 ?_
          exact go_lv rfl (ih.2.1 l1 hx hvx (by omega) (by omega) x0 (uu_hi _) (by omega))
        ·
          refine go_aload_n (pc := 46) rfl dX8_laysWay_46 ?_
          refine go_aload_n (pc := 47) rfl dX8_laysWay_47 ?_
          refine go_iload_n (pc := 48) rfl dX8_laysWay_48 ?_
          refine go_iconst (pc := 49) (v := 0) (by decide) dX8_laysWay_49 ?_
          have sM14 : (hx.2.1 70 6).toInt = S := by rw [hvx.fy (j := 6) (by omega), ← hv.fy (j := 6) (by omega)]; exact hS.symm
          refine go_invV (pc := 50) (sl := 0) (s_X8_wayOf_x l (d + 0) hvx l2 (by rw [show (l2 : Int32).toInt = l2.toInt from (ti_rfl l2)]; omega) (by rw [show (l2 : Int32).toInt = l2.toInt from (ti_rfl l2)]; omega) 0 (by rw [show (0 : Int32).toInt = 0 from (ti_c (v := 0) (a := 0) (by decide))]; omega) (by rw [show (0 : Int32).toInt = 0 from (ti_c (v := 0) (a := 0) (by decide))]; omega) (CKF.ve (VE.of hv hvx) ckf)) mL_X8_331 iM_X8_wayOf sM_X8_wayOf (hvx.sh rfl) rfl rfl rfl (Nat.le_of_ble_eq_true rfl) (show d + 0 + 5 + 1 ≤ d + 6 by omega) (show 8 + (4 + 11) + 40 * (d + 0 + 5) ≤ 40 * (d + 6) by omega) (g_c0 hvx.ln) (Nat.le_of_ble_eq_true rfl) dX8_laysWay_50 ?_
          intro r h15 hq _
          obtain ⟨v17, rfl, v17l, v17u, rfl, f16⟩ := hq
          rw [sM14] at f16
          try rw [show (0 : Int32).toInt = 0 from (ti_c (v := 0) (a := 0) (by decide))] at f16
          have w0 : v17.toInt = wo h.2.1 S l2.toInt 0 := by rw [f16]; exact wo_ve (VE.of hv hvx) _ _ _
          have w0g := WI.wo0 hv hwi (k := l2.toInt) (by omega) (by omega)
          refine go_invV (pc := 53) (sl := 0) (s_X8_onAllFrom_x l (d + 4) hvx v17 (by rw [show (v17 : Int32).toInt = v17.toInt from (ti_rfl v17)]; omega) (by rw [show (v17 : Int32).toInt = v17.toInt from (ti_rfl v17)]; omega)) mL_X8_334 iM_X8_onAllFrom sM_X8_onAllFrom (hvx.sh rfl) rfl rfl rfl (Nat.le_of_ble_eq_true rfl) (show d + 4 + 1 + 1 ≤ d + 6 by omega) (show 8 + (2 + 11) + 40 * (d + 4 + 1) ≤ 40 * (d + 6) by omega) (g_c0 hvx.ln) (Nat.le_of_ble_eq_true rfl) dX8_laysWay_53 ?_
          intro r h18 hq _
          obtain ⟨v20, rfl, rfl, f19⟩ := hq
          refine go_lstore_n (pc := 56) (Nat.le_of_ble_eq_true rfl) dX8_laysWay_56 (go_lv (lv2 := [(0, .ref 70), (1, .int l1), (2, .int l2), (3, .long v20)]) rfl ?_)
          refine go_aload_n (pc := 57) rfl dX8_laysWay_57 ?_
          refine go_iload_n (pc := 58) rfl dX8_laysWay_58 ?_
          refine go_iconst (pc := 59) (v := 1) (by decide) dX8_laysWay_59 ?_
          have sM21 : (hx.2.1 70 6).toInt = S := by rw [hvx.fy (j := 6) (by omega), ← hv.fy (j := 6) (by omega)]; exact hS.symm
          refine go_invV (pc := 60) (sl := 0) (s_X8_wayOf_x l (d + 0) hvx l2 (by rw [show (l2 : Int32).toInt = l2.toInt from (ti_rfl l2)]; omega) (by rw [show (l2 : Int32).toInt = l2.toInt from (ti_rfl l2)]; omega) 1 (by rw [show (1 : Int32).toInt = 1 from (ti_c (v := 1) (a := 1) (by decide))]; omega) (by rw [show (1 : Int32).toInt = 1 from (ti_c (v := 1) (a := 1) (by decide))]; omega) (CKF.ve (VE.of hv hvx) ckf)) mL_X8_331 iM_X8_wayOf sM_X8_wayOf (hvx.sh rfl) rfl rfl rfl (Nat.le_of_ble_eq_true rfl) (show d + 0 + 5 + 1 ≤ d + 6 by omega) (show 8 + (4 + 11) + 40 * (d + 0 + 5) ≤ 40 * (d + 6) by omega) (g_c0 hvx.ln) (Nat.le_of_ble_eq_true rfl) dX8_laysWay_60 ?_
          intro r h22 hq _
          obtain ⟨v24, rfl, v24l, v24u, rfl, f23⟩ := hq
          rw [sM21] at f23
          try rw [show (1 : Int32).toInt = 1 from (ti_c (v := 1) (a := 1) (by decide))] at f23
          have w1 : v24.toInt = wo h.2.1 S l2.toInt 1 := by rw [f23]; exact wo_ve (VE.of hv hvx) _ _ _
          refine go_bipush (pc := 63) (v := (-2)) (by decide) dX8_laysWay_63 ?_
          refine gf_icmp_eq (pc := 65) (tgt := 81) (ti_rfl v24) (ti_c (v := (-2)) (a := (-2)) (by decide)) (by decide) dX8_laysWay_65 (fun q25 => ?_) (fun q25 => ?_)
          ·
            refine go_lload_n (pc := 81) rfl dX8_laysWay_81 ?_
            refine go_lconst (pc := 82) (v := 1) (by decide) dX8_laysWay_82 ?_
            refine go_iload_n (pc := 83) rfl dX8_laysWay_83 ?_
            refine gx_lshl (pc := 84) dX8_laysWay_84 (fun v26 v26x => ?_)
            refine gx_lor (pc := 85) dX8_laysWay_85 (fun v27 v27x => ?_)
            have l2o : Int32.ofNat l2.toInt.toNat = l2 := (i32_of (by omega)).symm
            have nwv : v27 = nw h.2.1 hx.2.2.1 S l2.toInt := by unfold nw; rw [if_pos (by omega), l2o, ← w0, ← f19, v27x, v26x]
            refine go_lstore_n (pc := 86) (Nat.le_of_ble_eq_true rfl) dX8_laysWay_86 (go_lv (lv2 := [(0, .ref 70), (1, .int l1), (2, .int l2), (3, .long v27)]) rfl ?_)
            refine go_iload_n (pc := 87) rfl dX8_laysWay_87 ?_
            refine gf_if_ne (pc := 88) (tgt := 102) (ti_rfl l1) (by decide) dX8_laysWay_88 (fun q28 => ?_) (fun q28 => ?_)
            ·
              refine go_iconst (pc := 102) (v := 1) (by decide) dX8_laysWay_102 ?_
              refine go_goto (pc := 103) (tgt := 107) (by decide) dX8_laysWay_103 ?_
              refine go_istore_n (pc := 107) (Nat.le_of_ble_eq_true rfl) dX8_laysWay_107 (go_lv (lv2 := [(0, .ref 70), (1, .int 1), (2, .int l2), (3, .long v27)]) rfl ?_)
              refine go_aload_n (pc := 108) rfl dX8_laysWay_108 ?_
              refine gi_getF (pc := 109) (q := 106) hvx fL_X8_118 rfl (Nat.le_of_ble_eq_true rfl) rfl (hvx.rf (by decide)) dX8_laysWay_109 ?_
              refine go_iload_n (pc := 112) rfl dX8_laysWay_112 ?_
              refine go_lload_n (pc := 113) rfl dX8_laysWay_113 ?_
              refine gi_last (pc := 114) (len := 40) hvx (ti_rfl l2) rfl (by omega) (by omega) dX8_laysWay_114 (fun h29 hv29 hv29e => ?_)
              obtain ⟨t1, t2, t3⟩ := SH.step (by omega) (by omega) (by omega) x0 nwv
              have eh : h29.2.2.1 = (fun p q => if p = 106 ∧ q = (l2.toInt).toNat then v27 else hx.2.2.1 p q) := by rw [hv29e]; rfl
              rw [← eh] at t1 t2 t3
              refine gf_iinc (pc := 115) (Nat.le_of_ble_eq_true rfl) rfl (ti_rfl l2) (ti_c (by decide)) (by omega) (by omega) dX8_laysWay_115 (fun v30 e31 => ?_)
              refine go_lv (lv2 := [(0, .ref 70), (1, .int 1), (2, .int v30), (3, .long v27)]) rfl ?_
              refine go_goto (pc := 118) (tgt := 33) (by decide) dX8_laysWay_118 ?_
              have z32 : (1 : Int32).toInt = 1 := (ti_c (v := 1) (a := 1) (by decide))
              have z33 : (v30 : Int32).toInt = (l2.toInt + 1) := e31
              exact go_lv rfl (ih.2.2.1 1 v30 h29 hv29 (by omega) (by omega) (by omega) (by omega) t1 (uu_hi _) (by omega))
            ·
              refine go_lload_n (pc := 91) rfl dX8_laysWay_91 ?_
              refine go_aload_n (pc := 92) rfl dX8_laysWay_92 ?_
              refine gi_getF (pc := 93) (q := 106) hvx fL_X8_118 rfl (Nat.le_of_ble_eq_true rfl) rfl (hvx.rf (by decide)) dX8_laysWay_93 ?_
              refine go_iload_n (pc := 96) rfl dX8_laysWay_96 ?_
              refine gi_lald (pc := 97) (len := 40) hvx (ti_rfl l2) rfl (by omega) (by omega) dX8_laysWay_97 (fun v34 v34w => ?_)
              refine gx_lcmp (pc := 98) dX8_laysWay_98 (fun v35 v35x => ?_)
              refine gf_if_eq (pc := 99) (tgt := 106) (ti_rfl v35) (by decide) dX8_laysWay_99 (fun q36 => ?_) (fun q36 => ?_)
              ·
                refine go_iconst (pc := 106) (v := 0) (by decide) dX8_laysWay_106 ?_
                refine go_istore_n (pc := 107) (Nat.le_of_ble_eq_true rfl) dX8_laysWay_107 (go_lv (lv2 := [(0, .ref 70), (1, .int 0), (2, .int l2), (3, .long v27)]) rfl ?_)
                refine go_aload_n (pc := 108) rfl dX8_laysWay_108 ?_
                refine gi_getF (pc := 109) (q := 106) hvx fL_X8_118 rfl (Nat.le_of_ble_eq_true rfl) rfl (hvx.rf (by decide)) dX8_laysWay_109 ?_
                refine go_iload_n (pc := 112) rfl dX8_laysWay_112 ?_
                refine go_lload_n (pc := 113) rfl dX8_laysWay_113 ?_
                refine gi_last (pc := 114) (len := 40) hvx (ti_rfl l2) rfl (by omega) (by omega) dX8_laysWay_114 (fun h37 hv37 hv37e => ?_)
                obtain ⟨t1, t2, t3⟩ := SH.step (by omega) (by omega) (by omega) x0 nwv
                have eh : h37.2.2.1 = (fun p q => if p = 106 ∧ q = (l2.toInt).toNat then v27 else hx.2.2.1 p q) := by rw [hv37e]; rfl
                rw [← eh] at t1 t2 t3
                have t6 : ¬ (v35 : Int32).toInt = 0 → uu h37.2.2.1 + 1 ≤ uu hx.2.2.1 := fun q => t3 (fun z => q (by rw [v35x]; exact (cmp_eq _ _).mpr (by rw [z, v34w])))
                refine gf_iinc (pc := 115) (Nat.le_of_ble_eq_true rfl) rfl (ti_rfl l2) (ti_c (by decide)) (by omega) (by omega) dX8_laysWay_115 (fun v38 e39 => ?_)
                refine go_lv (lv2 := [(0, .ref 70), (1, .int 0), (2, .int v38), (3, .long v27)]) rfl ?_
                refine go_goto (pc := 118) (tgt := 33) (by decide) dX8_laysWay_118 ?_
                have z40 : (0 : Int32).toInt = 0 := (ti_c (v := 0) (a := 0) (by decide))
                have z41 : (v38 : Int32).toInt = (l2.toInt + 1) := e39
                exact go_lv rfl (ih.2.2.1 0 v38 h37 hv37 (by omega) (by omega) (by omega) (by omega) t1 (uu_hi _) (by omega))
              ·
                refine go_iconst (pc := 102) (v := 1) (by decide) dX8_laysWay_102 ?_
                refine go_goto (pc := 103) (tgt := 107) (by decide) dX8_laysWay_103 ?_
                refine go_istore_n (pc := 107) (Nat.le_of_ble_eq_true rfl) dX8_laysWay_107 (go_lv (lv2 := [(0, .ref 70), (1, .int 1), (2, .int l2), (3, .long v27)]) rfl ?_)
                refine go_aload_n (pc := 108) rfl dX8_laysWay_108 ?_
                refine gi_getF (pc := 109) (q := 106) hvx fL_X8_118 rfl (Nat.le_of_ble_eq_true rfl) rfl (hvx.rf (by decide)) dX8_laysWay_109 ?_
                refine go_iload_n (pc := 112) rfl dX8_laysWay_112 ?_
                refine go_lload_n (pc := 113) rfl dX8_laysWay_113 ?_
                refine gi_last (pc := 114) (len := 40) hvx (ti_rfl l2) rfl (by omega) (by omega) dX8_laysWay_114 (fun h42 hv42 hv42e => ?_)
                obtain ⟨t1, t2, t3⟩ := SH.step (by omega) (by omega) (by omega) x0 nwv
                have eh : h42.2.2.1 = (fun p q => if p = 106 ∧ q = (l2.toInt).toNat then v27 else hx.2.2.1 p q) := by rw [hv42e]; rfl
                rw [← eh] at t1 t2 t3
                have t6 : ¬ (v35 : Int32).toInt = 0 → uu h42.2.2.1 + 1 ≤ uu hx.2.2.1 := fun q => t3 (fun z => q (by rw [v35x]; exact (cmp_eq _ _).mpr (by rw [z, v34w])))
                refine gf_iinc (pc := 115) (Nat.le_of_ble_eq_true rfl) rfl (ti_rfl l2) (ti_c (by decide)) (by omega) (by omega) dX8_laysWay_115 (fun v43 e44 => ?_)
                refine go_lv (lv2 := [(0, .ref 70), (1, .int 1), (2, .int v43), (3, .long v27)]) rfl ?_
                refine go_goto (pc := 118) (tgt := 33) (by decide) dX8_laysWay_118 ?_
                have z45 : (1 : Int32).toInt = 1 := (ti_c (v := 1) (a := 1) (by decide))
                have z46 : (v43 : Int32).toInt = (l2.toInt + 1) := e44
                exact go_lv rfl (ih.2.2.1 1 v43 h42 hv42 (by omega) (by omega) (by omega) (by omega) t1 (uu_hi _) (by omega))
          ·
            refine go_lload_n (pc := 68) rfl dX8_laysWay_68 ?_
            refine go_aload_n (pc := 69) rfl dX8_laysWay_69 ?_
            refine go_aload_n (pc := 70) rfl dX8_laysWay_70 ?_
            refine go_iload_n (pc := 71) rfl dX8_laysWay_71 ?_
            refine go_iconst (pc := 72) (v := 1) (by decide) dX8_laysWay_72 ?_
            have sM47 : (hx.2.1 70 6).toInt = S := by rw [hvx.fy (j := 6) (by omega), ← hv.fy (j := 6) (by omega)]; exact hS.symm
            refine go_invV (pc := 73) (sl := 0) (s_X8_wayOf_x l (d + 0) hvx l2 (by rw [show (l2 : Int32).toInt = l2.toInt from (ti_rfl l2)]; omega) (by rw [show (l2 : Int32).toInt = l2.toInt from (ti_rfl l2)]; omega) 1 (by rw [show (1 : Int32).toInt = 1 from (ti_c (v := 1) (a := 1) (by decide))]; omega) (by rw [show (1 : Int32).toInt = 1 from (ti_c (v := 1) (a := 1) (by decide))]; omega) (CKF.ve (VE.of hv hvx) ckf)) mL_X8_331 iM_X8_wayOf sM_X8_wayOf (hvx.sh rfl) rfl rfl rfl (Nat.le_of_ble_eq_true rfl) (show d + 0 + 5 + 1 ≤ d + 6 by omega) (show 8 + (4 + 11) + 40 * (d + 0 + 5) ≤ 40 * (d + 6) by omega) (g_c0 hvx.ln) (Nat.le_of_ble_eq_true rfl) dX8_laysWay_73 ?_
            intro r h48 hq _
            obtain ⟨v50, rfl, v50l, v50u, rfl, f49⟩ := hq
            rw [sM47] at f49
            try rw [show (1 : Int32).toInt = 1 from (ti_c (v := 1) (a := 1) (by decide))] at f49
            have w1b : v50.toInt = wo h.2.1 S l2.toInt 1 := by rw [f49]; exact wo_ve (VE.of hv hvx) _ _ _
            refine go_invV (pc := 76) (sl := 0) (s_X8_onAllFrom_x l (d + 4) hvx v50 (by rw [show (v50 : Int32).toInt = v50.toInt from (ti_rfl v50)]; omega) (by rw [show (v50 : Int32).toInt = v50.toInt from (ti_rfl v50)]; omega)) mL_X8_334 iM_X8_onAllFrom sM_X8_onAllFrom (hvx.sh rfl) rfl rfl rfl (Nat.le_of_ble_eq_true rfl) (show d + 4 + 1 + 1 ≤ d + 6 by omega) (show 8 + (2 + 11) + 40 * (d + 4 + 1) ≤ 40 * (d + 6) by omega) (g_c0 hvx.ln) (Nat.le_of_ble_eq_true rfl) dX8_laysWay_76 ?_
            intro r h51 hq _
            obtain ⟨v53, rfl, rfl, f52⟩ := hq
            refine gx_land (pc := 79) dX8_laysWay_79 (fun v54 v54x => ?_)
            refine go_lstore_n (pc := 80) (Nat.le_of_ble_eq_true rfl) dX8_laysWay_80 (go_lv (lv2 := [(0, .ref 70), (1, .int l1), (2, .int l2), (3, .long v54)]) rfl ?_)
            refine go_lload_n (pc := 81) rfl dX8_laysWay_81 ?_
            refine go_lconst (pc := 82) (v := 1) (by decide) dX8_laysWay_82 ?_
            refine go_iload_n (pc := 83) rfl dX8_laysWay_83 ?_
            refine gx_lshl (pc := 84) dX8_laysWay_84 (fun v55 v55x => ?_)
            refine gx_lor (pc := 85) dX8_laysWay_85 (fun v56 v56x => ?_)
            have l2o : Int32.ofNat l2.toInt.toNat = l2 := (i32_of (by omega)).symm
            have nwv : v56 = nw h.2.1 hx.2.2.1 S l2.toInt := by unfold nw; rw [if_neg (by omega), l2o, ← w0, ← w1b, ← f19, ← f52, v56x, v54x, v55x]
            refine go_lstore_n (pc := 86) (Nat.le_of_ble_eq_true rfl) dX8_laysWay_86 (go_lv (lv2 := [(0, .ref 70), (1, .int l1), (2, .int l2), (3, .long v56)]) rfl ?_)
            refine go_iload_n (pc := 87) rfl dX8_laysWay_87 ?_
            refine gf_if_ne (pc := 88) (tgt := 102) (ti_rfl l1) (by decide) dX8_laysWay_88 (fun q57 => ?_) (fun q57 => ?_)
            ·
              refine go_iconst (pc := 102) (v := 1) (by decide) dX8_laysWay_102 ?_
              refine go_goto (pc := 103) (tgt := 107) (by decide) dX8_laysWay_103 ?_
              refine go_istore_n (pc := 107) (Nat.le_of_ble_eq_true rfl) dX8_laysWay_107 (go_lv (lv2 := [(0, .ref 70), (1, .int 1), (2, .int l2), (3, .long v56)]) rfl ?_)
              refine go_aload_n (pc := 108) rfl dX8_laysWay_108 ?_
              refine gi_getF (pc := 109) (q := 106) hvx fL_X8_118 rfl (Nat.le_of_ble_eq_true rfl) rfl (hvx.rf (by decide)) dX8_laysWay_109 ?_
              refine go_iload_n (pc := 112) rfl dX8_laysWay_112 ?_
              refine go_lload_n (pc := 113) rfl dX8_laysWay_113 ?_
              refine gi_last (pc := 114) (len := 40) hvx (ti_rfl l2) rfl (by omega) (by omega) dX8_laysWay_114 (fun h58 hv58 hv58e => ?_)
              obtain ⟨t1, t2, t3⟩ := SH.step (by omega) (by omega) (by omega) x0 nwv
              have eh : h58.2.2.1 = (fun p q => if p = 106 ∧ q = (l2.toInt).toNat then v56 else hx.2.2.1 p q) := by rw [hv58e]; rfl
              rw [← eh] at t1 t2 t3
              refine gf_iinc (pc := 115) (Nat.le_of_ble_eq_true rfl) rfl (ti_rfl l2) (ti_c (by decide)) (by omega) (by omega) dX8_laysWay_115 (fun v59 e60 => ?_)
              refine go_lv (lv2 := [(0, .ref 70), (1, .int 1), (2, .int v59), (3, .long v56)]) rfl ?_
              refine go_goto (pc := 118) (tgt := 33) (by decide) dX8_laysWay_118 ?_
              have z61 : (1 : Int32).toInt = 1 := (ti_c (v := 1) (a := 1) (by decide))
              have z62 : (v59 : Int32).toInt = (l2.toInt + 1) := e60
              exact go_lv rfl (ih.2.2.1 1 v59 h58 hv58 (by omega) (by omega) (by omega) (by omega) t1 (uu_hi _) (by omega))
            ·
              refine go_lload_n (pc := 91) rfl dX8_laysWay_91 ?_
              refine go_aload_n (pc := 92) rfl dX8_laysWay_92 ?_
              refine gi_getF (pc := 93) (q := 106) hvx fL_X8_118 rfl (Nat.le_of_ble_eq_true rfl) rfl (hvx.rf (by decide)) dX8_laysWay_93 ?_
              refine go_iload_n (pc := 96) rfl dX8_laysWay_96 ?_
              refine gi_lald (pc := 97) (len := 40) hvx (ti_rfl l2) rfl (by omega) (by omega) dX8_laysWay_97 (fun v63 v63w => ?_)
              refine gx_lcmp (pc := 98) dX8_laysWay_98 (fun v64 v64x => ?_)
              refine gf_if_eq (pc := 99) (tgt := 106) (ti_rfl v64) (by decide) dX8_laysWay_99 (fun q65 => ?_) (fun q65 => ?_)
              ·
                refine go_iconst (pc := 106) (v := 0) (by decide) dX8_laysWay_106 ?_
                refine go_istore_n (pc := 107) (Nat.le_of_ble_eq_true rfl) dX8_laysWay_107 (go_lv (lv2 := [(0, .ref 70), (1, .int 0), (2, .int l2), (3, .long v56)]) rfl ?_)
                refine go_aload_n (pc := 108) rfl dX8_laysWay_108 ?_
                refine gi_getF (pc := 109) (q := 106) hvx fL_X8_118 rfl (Nat.le_of_ble_eq_true rfl) rfl (hvx.rf (by decide)) dX8_laysWay_109 ?_
                refine go_iload_n (pc := 112) rfl dX8_laysWay_112 ?_
                refine go_lload_n (pc := 113) rfl dX8_laysWay_113 ?_
                refine gi_last (pc := 114) (len := 40) hvx (ti_rfl l2) rfl (by omega) (by omega) dX8_laysWay_114 (fun h66 hv66 hv66e => ?_)
                obtain ⟨t1, t2, t3⟩ := SH.step (by omega) (by omega) (by omega) x0 nwv
                have eh : h66.2.2.1 = (fun p q => if p = 106 ∧ q = (l2.toInt).toNat then v56 else hx.2.2.1 p q) := by rw [hv66e]; rfl
                rw [← eh] at t1 t2 t3
                have t6 : ¬ (v64 : Int32).toInt = 0 → uu h66.2.2.1 + 1 ≤ uu hx.2.2.1 := fun q => t3 (fun z => q (by rw [v64x]; exact (cmp_eq _ _).mpr (by rw [z, v63w])))
                refine gf_iinc (pc := 115) (Nat.le_of_ble_eq_true rfl) rfl (ti_rfl l2) (ti_c (by decide)) (by omega) (by omega) dX8_laysWay_115 (fun v67 e68 => ?_)
                refine go_lv (lv2 := [(0, .ref 70), (1, .int 0), (2, .int v67), (3, .long v56)]) rfl ?_
                refine go_goto (pc := 118) (tgt := 33) (by decide) dX8_laysWay_118 ?_
                have z69 : (0 : Int32).toInt = 0 := (ti_c (v := 0) (a := 0) (by decide))
                have z70 : (v67 : Int32).toInt = (l2.toInt + 1) := e68
                exact go_lv rfl (ih.2.2.1 0 v67 h66 hv66 (by omega) (by omega) (by omega) (by omega) t1 (uu_hi _) (by omega))
              ·
                refine go_iconst (pc := 102) (v := 1) (by decide) dX8_laysWay_102 ?_
                refine go_goto (pc := 103) (tgt := 107) (by decide) dX8_laysWay_103 ?_
                refine go_istore_n (pc := 107) (Nat.le_of_ble_eq_true rfl) dX8_laysWay_107 (go_lv (lv2 := [(0, .ref 70), (1, .int 1), (2, .int l2), (3, .long v56)]) rfl ?_)
                refine go_aload_n (pc := 108) rfl dX8_laysWay_108 ?_
                refine gi_getF (pc := 109) (q := 106) hvx fL_X8_118 rfl (Nat.le_of_ble_eq_true rfl) rfl (hvx.rf (by decide)) dX8_laysWay_109 ?_
                refine go_iload_n (pc := 112) rfl dX8_laysWay_112 ?_
                refine go_lload_n (pc := 113) rfl dX8_laysWay_113 ?_
                refine gi_last (pc := 114) (len := 40) hvx (ti_rfl l2) rfl (by omega) (by omega) dX8_laysWay_114 (fun h71 hv71 hv71e => ?_)
                obtain ⟨t1, t2, t3⟩ := SH.step (by omega) (by omega) (by omega) x0 nwv
                have eh : h71.2.2.1 = (fun p q => if p = 106 ∧ q = (l2.toInt).toNat then v56 else hx.2.2.1 p q) := by rw [hv71e]; rfl
                rw [← eh] at t1 t2 t3
                have t6 : ¬ (v64 : Int32).toInt = 0 → uu h71.2.2.1 + 1 ≤ uu hx.2.2.1 := fun q => t3 (fun z => q (by rw [v64x]; exact (cmp_eq _ _).mpr (by rw [z, v63w])))
                refine gf_iinc (pc := 115) (Nat.le_of_ble_eq_true rfl) rfl (ti_rfl l2) (ti_c (by decide)) (by omega) (by omega) dX8_laysWay_115 (fun v72 e73 => ?_)
                refine go_lv (lv2 := [(0, .ref 70), (1, .int 1), (2, .int v72), (3, .long v56)]) rfl ?_
                refine go_goto (pc := 118) (tgt := 33) (by decide) dX8_laysWay_118 ?_
                have z74 : (1 : Int32).toInt = 1 := (ti_c (v := 1) (a := 1) (by decide))
                have z75 : (v72 : Int32).toInt = (l2.toInt + 1) := e73
                exact go_lv rfl (ih.2.2.1 1 v72 h71 hv71 (by omega) (by omega) (by omega) (by omega) t1 (uu_hi _) (by omega))
      ·
        intro l2 hx hvx l2l l2u hm
        refine go_iload_n (pc := 126) rfl dX8_laysWay_126 ?_
        refine go_aload_n (pc := 127) rfl dX8_laysWay_127 ?_
        refine gi_getF (pc := 128) (q := 75) hvx fL_X8_23 rfl (Nat.le_of_ble_eq_true rfl) rfl (hvx.rf (by decide)) dX8_laysWay_128 ?_
        refine go_aload_n (pc := 131) rfl dX8_laysWay_131 ?_
        refine gi_get (pc := 132) (lo := 0) (hi := 1) hvx fL_X8_187 rfl (Nat.le_of_ble_eq_true rfl) rfl rfl dX8_laysWay_132 (fun v76 v76l v76u v76w => ?_)
        have v76S : v76.toInt = S := by rw [v76w, hvx.fy (j := 6) (by omega), ← hv.fy (j := 6) (by omega)]; exact hS.symm
        refine gi_iald (pc := 135) (lo := 0) (hi := 40) (len := 2) hvx (ti_rfl v76) rfl (by omega) (by omega) (fun _ => rfl) dX8_laysWay_135 (fun v77 v77l v77u v77w => ?_)
        have v77V : v77.toInt = V h.2.1 75 S := by rw [v77w, v76S, hvx.fz (c := 75) (by omega) (by omega), ← hv.fz (c := 75) (by omega) (by omega)]; rfl
        refine gf_icmp_ge (pc := 136) (tgt := 152) (ti_rfl l2) (ti_rfl v77) (by decide) dX8_laysWay_136 (fun q78 => ?_) (fun q78 => ?_)
        ·
          refine go_iconst (pc := 152) (v := 0) (by decide) dX8_laysWay_152 ?_
          refine go_istore_n (pc := 153) (Nat.le_of_ble_eq_true rfl) dX8_laysWay_153 (go_lv (lv2 := [(0, .ref 70), (2, .int 0)]) rfl ?_)
          have z79 : (0 : Int32).toInt = 0 := (ti_c (v := 0) (a := 0) (by decide))
          exact go_lv rfl (ih.2.2.2.2.1 0 hx hvx (by omega) (by omega) (by omega))
        ·
          refine go_aload_n (pc := 139) rfl dX8_laysWay_139 ?_
          refine gi_getF (pc := 140) (q := 105) hvx fL_X8_115 rfl (Nat.le_of_ble_eq_true rfl) rfl (hvx.rf (by decide)) dX8_laysWay_140 ?_
          refine go_iload_n (pc := 143) rfl dX8_laysWay_143 ?_
          refine go_lconst (pc := 144) (v := 0) (by decide) dX8_laysWay_144 ?_
          refine gi_last (pc := 145) (len := 40) hvx (ti_rfl l2) rfl (by omega) (by omega) dX8_laysWay_145 (fun h80 hv80 hv80e => ?_)
          refine gf_iinc (pc := 146) (Nat.le_of_ble_eq_true rfl) rfl (ti_rfl l2) (ti_c (by decide)) (by omega) (by omega) dX8_laysWay_146 (fun v81 e82 => ?_)
          refine go_lv (lv2 := [(0, .ref 70), (2, .int v81)]) rfl ?_
          refine go_goto (pc := 149) (tgt := 126) (by decide) dX8_laysWay_149 ?_
          have z83 : (v81 : Int32).toInt = (l2.toInt + 1) := e82
          exact go_lv rfl (ih.2.2.2.1 v81 h80 hv80 (by omega) (by omega) (by omega))
      ·
        intro l2 hx hvx l2l l2u hm
        refine go_iload_n (pc := 154) rfl dX8_laysWay_154 ?_
        refine go_aload_n (pc := 155) rfl dX8_laysWay_155 ?_
        refine gi_getF (pc := 156) (q := 75) hvx fL_X8_23 rfl (Nat.le_of_ble_eq_true rfl) rfl (hvx.rf (by decide)) dX8_laysWay_156 ?_
        refine go_aload_n (pc := 159) rfl dX8_laysWay_159 ?_
        refine gi_get (pc := 160) (lo := 0) (hi := 1) hvx fL_X8_187 rfl (Nat.le_of_ble_eq_true rfl) rfl rfl dX8_laysWay_160 (fun v84 v84l v84u v84w => ?_)
        have v84S : v84.toInt = S := by rw [v84w, hvx.fy (j := 6) (by omega), ← hv.fy (j := 6) (by omega)]; exact hS.symm
        refine gi_iald (pc := 163) (lo := 0) (hi := 40) (len := 2) hvx (ti_rfl v84) rfl (by omega) (by omega) (fun _ => rfl) dX8_laysWay_163 (fun v85 v85l v85u v85w => ?_)
        have v85V : v85.toInt = V h.2.1 75 S := by rw [v85w, v84S, hvx.fz (c := 75) (by omega) (by omega), ← hv.fz (c := 75) (by omega) (by omega)]; rfl
        refine gf_icmp_ge (pc := 164) (tgt := 283) (ti_rfl l2) (ti_rfl v85) (by decide) dX8_laysWay_164 (fun q86 => ?_) (fun q86 => ?_)
        ·
          refine go_iconst (pc := 283) (v := 0) (by decide) dX8_laysWay_283 ?_
          refine go_istore_n (pc := 284) (Nat.le_of_ble_eq_true rfl) dX8_laysWay_284 (go_lv (lv2 := [(0, .ref 70), (2, .int 0)]) rfl ?_)
          have z87 : (0 : Int32).toInt = 0 := (ti_c (v := 0) (a := 0) (by decide))
          exact go_lv rfl (ih.2.2.2.2.2.2.1 0 hx hvx (by omega) (by omega) (by omega))
        ·
          refine go_aload_n (pc := 167) rfl dX8_laysWay_167 ?_
          refine go_iload_n (pc := 168) rfl dX8_laysWay_168 ?_
          have sM88 : (hx.2.1 70 6).toInt = S := by rw [hvx.fy (j := 6) (by omega), ← hv.fy (j := 6) (by omega)]; exact hS.symm
          refine go_invV (pc := 169) (sl := 0) (s_X8_decides_x l (d + 1) hvx l2 (by rw [show (l2 : Int32).toInt = l2.toInt from (ti_rfl l2)]; omega) (by rw [show (l2 : Int32).toInt = l2.toInt from (ti_rfl l2)]; omega) (CKF.ve (VE.of hv hvx) ckf)) mL_X8_338 iM_X8_decides sM_X8_decides (hvx.sh rfl) rfl rfl rfl (Nat.le_of_ble_eq_true rfl) (show d + 1 + 4 + 1 ≤ d + 6 by omega) (show 8 + (3 + 11) + 40 * (d + 1 + 4) ≤ 40 * (d + 6) by omega) (g_c0 hvx.ln) (Nat.le_of_ble_eq_true rfl) dX8_laysWay_169 ?_
          intro r h89 hq _
          obtain ⟨v91, rfl, v91l, v91u, rfl, f90⟩ := hq
          rw [sM88] at f90
          refine gf_if_ne (pc := 172) (tgt := 178) (ti_rfl v91) (by decide) dX8_laysWay_172 (fun q92 => ?_) (fun q92 => ?_)
          ·
            have dcd := f90 (by omega)
            have vee := VE.of hv hvx
            rw [vee.v (c := 77) (by omega) (by omega), vee.v (c := 93) (by omega) (by omega), vee.v (c := 102) (by omega) (by omega), vee.v (c := 84) (by omega) (by omega)] at dcd
            refine go_aload_n (pc := 178) rfl dX8_laysWay_178 ?_
            refine go_aload_n (pc := 179) rfl dX8_laysWay_179 ?_
            refine go_iload_n (pc := 180) rfl dX8_laysWay_180 ?_
            refine go_iconst (pc := 181) (v := 0) (by decide) dX8_laysWay_181 ?_
            have sM93 : (hx.2.1 70 6).toInt = S := by rw [hvx.fy (j := 6) (by omega), ← hv.fy (j := 6) (by omega)]; exact hS.symm
            refine go_invV (pc := 182) (sl := 0) (s_X8_wayOf_x l (d + 0) hvx l2 (by rw [show (l2 : Int32).toInt = l2.toInt from (ti_rfl l2)]; omega) (by rw [show (l2 : Int32).toInt = l2.toInt from (ti_rfl l2)]; omega) 0 (by rw [show (0 : Int32).toInt = 0 from (ti_c (v := 0) (a := 0) (by decide))]; omega) (by rw [show (0 : Int32).toInt = 0 from (ti_c (v := 0) (a := 0) (by decide))]; omega) (CKF.ve (VE.of hv hvx) ckf)) mL_X8_331 iM_X8_wayOf sM_X8_wayOf (hvx.sh rfl) rfl rfl rfl (Nat.le_of_ble_eq_true rfl) (show d + 0 + 5 + 1 ≤ d + 6 by omega) (show 8 + (4 + 11) + 40 * (d + 0 + 5) ≤ 40 * (d + 6) by omega) (g_c0 hvx.ln) (Nat.le_of_ble_eq_true rfl) dX8_laysWay_182 ?_
            intro r h94 hq _
            obtain ⟨v96, rfl, v96l, v96u, rfl, f95⟩ := hq
            rw [sM93] at f95
            try rw [show (0 : Int32).toInt = 0 from (ti_c (v := 0) (a := 0) (by decide))] at f95
            have w0d : v96.toInt = wo h.2.1 S l2.toInt 0 := by rw [f95]; exact wo_ve (VE.of hv hvx) _ _ _
            have w0dg := WI.wo0 hv hwi (k := l2.toInt) (by omega) (by omega)
            refine go_invV (pc := 185) (sl := 0) (s_X8_onAllFrom_x l (d + 4) hvx v96 (by rw [show (v96 : Int32).toInt = v96.toInt from (ti_rfl v96)]; omega) (by rw [show (v96 : Int32).toInt = v96.toInt from (ti_rfl v96)]; omega)) mL_X8_334 iM_X8_onAllFrom sM_X8_onAllFrom (hvx.sh rfl) rfl rfl rfl (Nat.le_of_ble_eq_true rfl) (show d + 4 + 1 + 1 ≤ d + 6 by omega) (show 8 + (2 + 11) + 40 * (d + 4 + 1) ≤ 40 * (d + 6) by omega) (g_c0 hvx.ln) (Nat.le_of_ble_eq_true rfl) dX8_laysWay_185 ?_
            intro r h97 hq _
            obtain ⟨v99, rfl, rfl, f98⟩ := hq
            refine go_aload_n (pc := 188) rfl dX8_laysWay_188 ?_
            refine go_aload_n (pc := 189) rfl dX8_laysWay_189 ?_
            refine go_iload_n (pc := 190) rfl dX8_laysWay_190 ?_
            refine go_iconst (pc := 191) (v := 1) (by decide) dX8_laysWay_191 ?_
            have sM100 : (hx.2.1 70 6).toInt = S := by rw [hvx.fy (j := 6) (by omega), ← hv.fy (j := 6) (by omega)]; exact hS.symm
            refine go_invV (pc := 192) (sl := 0) (s_X8_wayOf_x l (d + 0) hvx l2 (by rw [show (l2 : Int32).toInt = l2.toInt from (ti_rfl l2)]; omega) (by rw [show (l2 : Int32).toInt = l2.toInt from (ti_rfl l2)]; omega) 1 (by rw [show (1 : Int32).toInt = 1 from (ti_c (v := 1) (a := 1) (by decide))]; omega) (by rw [show (1 : Int32).toInt = 1 from (ti_c (v := 1) (a := 1) (by decide))]; omega) (CKF.ve (VE.of hv hvx) ckf)) mL_X8_331 iM_X8_wayOf sM_X8_wayOf (hvx.sh rfl) rfl rfl rfl (Nat.le_of_ble_eq_true rfl) (show d + 0 + 5 + 1 ≤ d + 6 by omega) (show 8 + (4 + 11) + 40 * (d + 0 + 5) ≤ 40 * (d + 6) by omega) (g_c0 hvx.ln) (Nat.le_of_ble_eq_true rfl) dX8_laysWay_192 ?_
            intro r h101 hq _
            obtain ⟨v103, rfl, v103l, v103u, rfl, f102⟩ := hq
            rw [sM100] at f102
            try rw [show (1 : Int32).toInt = 1 from (ti_c (v := 1) (a := 1) (by decide))] at f102
            have w1d : v103.toInt = wo h.2.1 S l2.toInt 1 := by rw [f102]; exact wo_ve (VE.of hv hvx) _ _ _
            have w1dg := wo1_ge hv (k := l2.toInt) dcd
            refine go_invV (pc := 195) (sl := 0) (s_X8_onAllFrom_x l (d + 4) hvx v103 (by rw [show (v103 : Int32).toInt = v103.toInt from (ti_rfl v103)]; omega) (by rw [show (v103 : Int32).toInt = v103.toInt from (ti_rfl v103)]; omega)) mL_X8_334 iM_X8_onAllFrom sM_X8_onAllFrom (hvx.sh rfl) rfl rfl rfl (Nat.le_of_ble_eq_true rfl) (show d + 4 + 1 + 1 ≤ d + 6 by omega) (show 8 + (2 + 11) + 40 * (d + 4 + 1) ≤ 40 * (d + 6) by omega) (g_c0 hvx.ln) (Nat.le_of_ble_eq_true rfl) dX8_laysWay_195 ?_
            intro r h104 hq _
            obtain ⟨v106, rfl, rfl, f105⟩ := hq
            refine gx_lxor (pc := 198) dX8_laysWay_198 (fun v107 v107x => ?_)
            refine go_lstore_n (pc := 199) (Nat.le_of_ble_eq_true rfl) dX8_laysWay_199 (go_lv (lv2 := [(0, .ref 70), (2, .int l2), (3, .long v107)]) rfl ?_)
            refine go_iconst (pc := 200) (v := 0) (by decide) dX8_laysWay_200 ?_
            refine go_istore (pc := 201) (Nat.le_of_ble_eq_true rfl) dX8_laysWay_201 (go_lv (lv2 := [(0, .ref 70), (2, .int l2), (3, .long v107), (5, .int 0)]) rfl ?_)
            have z108 : (0 : Int32).toInt = 0 := (ti_c (v := 0) (a := 0) (by decide))
            exact go_lv rfl (ih.2.2.2.2.2.1 l2 v107 0 hx hvx (by omega) (by omega) (by omega) (by omega) (by omega))
          ·
            refine go_goto (pc := 175) (tgt := 277) (by decide) dX8_laysWay_175 ?_
            refine gf_iinc (pc := 277) (Nat.le_of_ble_eq_true rfl) rfl (ti_rfl l2) (ti_c (by decide)) (by omega) (by omega) dX8_laysWay_277 (fun v109 e110 => ?_)
            refine go_lv (lv2 := [(0, .ref 70), (2, .int v109)]) rfl ?_
            refine go_goto (pc := 280) (tgt := 154) (by decide) dX8_laysWay_280 ?_
            have z111 : (v109 : Int32).toInt = (l2.toInt + 1) := e110
            exact go_lv rfl (ih.2.2.2.2.1 v109 hx hvx (by omega) (by omega) (by omega))
      ·
        intro l2 l3 l5 hx hvx l2l l2u l5l l5u hm
        refine go_iload (pc := 203) rfl dX8_laysWay_203 ?_
        refine go_aload_n (pc := 205) rfl dX8_laysWay_205 ?_
        refine gi_getF (pc := 206) (q := 75) hvx fL_X8_23 rfl (Nat.le_of_ble_eq_true rfl) rfl (hvx.rf (by decide)) dX8_laysWay_206 ?_
        refine go_aload_n (pc := 209) rfl dX8_laysWay_209 ?_
        refine gi_get (pc := 210) (lo := 0) (hi := 1) hvx fL_X8_187 rfl (Nat.le_of_ble_eq_true rfl) rfl rfl dX8_laysWay_210 (fun v112 v112l v112u v112w => ?_)
        have v112S : v112.toInt = S := by rw [v112w, hvx.fy (j := 6) (by omega), ← hv.fy (j := 6) (by omega)]; exact hS.symm
        refine gi_iald (pc := 213) (lo := 0) (hi := 40) (len := 2) hvx (ti_rfl v112) rfl (by omega) (by omega) (fun _ => rfl) dX8_laysWay_213 (fun v113 v113l v113u v113w => ?_)
        have v113V : v113.toInt = V h.2.1 75 S := by rw [v113w, v112S, hvx.fz (c := 75) (by omega) (by omega), ← hv.fz (c := 75) (by omega) (by omega)]; rfl
        refine gf_icmp_ge (pc := 214) (tgt := 277) (ti_rfl l5) (ti_rfl v113) (by decide) dX8_laysWay_214 (fun q114 => ?_) (fun q114 => ?_)
        ·
          refine gf_iinc (pc := 277) (Nat.le_of_ble_eq_true rfl) rfl (ti_rfl l2) (ti_c (by decide)) (by omega) (by omega) dX8_laysWay_277 (fun v115 e116 => ?_)
          refine go_lv (lv2 := [(0, .ref 70), (2, .int v115), (3, .long l3), (5, .int l5)]) rfl ?_
          refine go_goto (pc := 280) (tgt := 154) (by decide) dX8_laysWay_280 ?_
          have z117 : (v115 : Int32).toInt = (l2.toInt + 1) := e116
          exact go_lv rfl (ih.2.2.2.2.1 v115 hx hvx (by omega) (by omega) (by omega))
        ·
          refine go_lload_n (pc := 217) rfl dX8_laysWay_217 ?_
          refine go_iload (pc := 218) rfl dX8_laysWay_218 ?_
          refine go_invS (pc := 220) (sl := 0) (s_X8_has l (d + 4) hvx l3 l5) mL_X8_280 iM_X8_has rfl rfl (Nat.le_of_ble_eq_true rfl) (show d + 4 + 1 + 1 ≤ d + 6 by omega) (show 8 + (3 + 11) + 40 * (d + 4 + 1) ≤ 40 * (d + 6) by omega) (g_c0 hvx.ln) (Nat.le_of_ble_eq_true rfl) dX8_laysWay_220 ?_
          intro r h118 hq _
          obtain ⟨v119, rfl, v119l, v119u, rfl⟩ := hq
          refine gf_if_ne (pc := 223) (tgt := 229) (ti_rfl v119) (by decide) dX8_laysWay_223 (fun q120 => ?_) (fun q120 => ?_)
          ·
            refine go_aload_n (pc := 229) rfl dX8_laysWay_229 ?_
            refine gi_getF (pc := 230) (q := 105) hvx fL_X8_115 rfl (Nat.le_of_ble_eq_true rfl) rfl (hvx.rf (by decide)) dX8_laysWay_230 ?_
            refine go_iload (pc := 233) rfl dX8_laysWay_233 ?_
            refine go_dup2 (pc := 235) rfl rfl dX8_laysWay_235 ?_
            refine gi_lald (pc := 236) (len := 40) hvx (ti_rfl l5) rfl (by omega) (by omega) dX8_laysWay_236 (fun v121 v121w => ?_)
            refine go_lconst (pc := 237) (v := 1) (by decide) dX8_laysWay_237 ?_
            refine go_iload_n (pc := 238) rfl dX8_laysWay_238 ?_
            refine gx_lshl (pc := 239) dX8_laysWay_239 (fun v122 v122x => ?_)
            refine gx_lor (pc := 240) dX8_laysWay_240 (fun v123 v123x => ?_)
            refine gi_last (pc := 241) (len := 40) hvx (ti_rfl l5) rfl (by omega) (by omega) dX8_laysWay_241 (fun h124 hv124 hv124e => ?_)
            refine go_aload_n (pc := 242) rfl dX8_laysWay_242 ?_
            refine go_iload (pc := 243) rfl dX8_laysWay_243 ?_
            refine go_iconst (pc := 245) (v := 0) (by decide) dX8_laysWay_245 ?_
            refine go_invS (pc := 246) (sl := 0) (s_X8_statementPlace l (d + 4) hv124 l5 (by rw [show (l5 : Int32).toInt = l5.toInt from (ti_rfl l5)]; omega) (by rw [show (l5 : Int32).toInt = l5.toInt from (ti_rfl l5)]; omega) 0 (by rw [show (0 : Int32).toInt = 0 from (ti_c (v := 0) (a := 0) (by decide))]; omega) (by rw [show (0 : Int32).toInt = 0 from (ti_c (v := 0) (a := 0) (by decide))]; omega)) mL_X8_291 iM_X8_statementPlace rfl rfl (Nat.le_of_ble_eq_true rfl) (show d + 4 + 1 + 1 ≤ d + 6 by omega) (show 8 + (2 + 11) + 40 * (d + 4 + 1) ≤ 40 * (d + 6) by omega) (g_c0 hv124.ln) (Nat.le_of_ble_eq_true rfl) dX8_laysWay_246 ?_
            intro r h125 hq _
            obtain ⟨v126, rfl, v126l, v126u, rfl⟩ := hq
            refine go_iload_n (pc := 249) rfl dX8_laysWay_249 ?_
            refine go_aload_n (pc := 250) rfl dX8_laysWay_250 ?_
            refine go_iload_n (pc := 251) rfl dX8_laysWay_251 ?_
            refine go_invV (pc := 252) (sl := 0) (s_X8_kindAt l (d + 3) hv124 l2 (by rw [show (l2 : Int32).toInt = l2.toInt from (ti_rfl l2)]; omega) (by rw [show (l2 : Int32).toInt = l2.toInt from (ti_rfl l2)]; omega)) mL_X8_271 iM_X8_kindAt sM_X8_kindAt (hv124.sh rfl) rfl rfl rfl (Nat.le_of_ble_eq_true rfl) (show d + 3 + 2 + 1 ≤ d + 6 by omega) (show 8 + (2 + 11) + 40 * (d + 3 + 2) ≤ 40 * (d + 6) by omega) (g_c0 hv124.ln) (Nat.le_of_ble_eq_true rfl) dX8_laysWay_252 ?_
            intro r h127 hq _
            obtain ⟨v129, rfl, v129l, v129u, rfl, f128⟩ := hq
            have v129K : v129.toInt = V h.2.1 77 (V h.2.1 93 (40 * S + l2.toInt)) := by rw [f128]; unfold g_kd g_it; rw [hv124.fy (j := 6) (by omega), ← hv.fy (j := 6) (by omega), ← hS, hv124.fz (c := 93) (by omega) (by omega), ← hv.fz (c := 93) (by omega) (by omega), hv124.fz (c := 77) (by omega) (by omega), ← hv.fz (c := 77) (by omega) (by omega)]; rfl
            refine go_iconst (pc := 255) (v := 1) (by decide) dX8_laysWay_255 ?_
            refine gf_icmp_ne (pc := 256) (tgt := 264) (ti_rfl v129) (ti_c (v := 1) (a := 1) (by decide)) (by decide) dX8_laysWay_256 (fun q130 => ?_) (fun q130 => ?_)
            ·
              refine go_iconst (pc := 264) (v := 0) (by decide) dX8_laysWay_264 ?_
              refine go_invS (pc := 265) (sl := 0) (s_X8_statementPlace l (d + 4) hv124 l2 (by rw [show (l2 : Int32).toInt = l2.toInt from (ti_rfl l2)]; omega) (by rw [show (l2 : Int32).toInt = l2.toInt from (ti_rfl l2)]; omega) 0 (by rw [show (0 : Int32).toInt = 0 from (ti_c (v := 0) (a := 0) (by decide))]; omega) (by rw [show (0 : Int32).toInt = 0 from (ti_c (v := 0) (a := 0) (by decide))]; omega)) mL_X8_291 iM_X8_statementPlace rfl rfl (Nat.le_of_ble_eq_true rfl) (show d + 4 + 1 + 1 ≤ d + 6 by omega) (show 8 + (2 + 11) + 40 * (d + 4 + 1) ≤ 40 * (d + 6) by omega) (g_c0 hv124.ln) (Nat.le_of_ble_eq_true rfl) dX8_laysWay_265 ?_
              intro r h131 hq _
              obtain ⟨v132, rfl, v132l, v132u, rfl⟩ := hq
              refine go_invV (pc := 268) (sl := 0) (s_X8_hang l (d + 4) hv124 v126 (by rw [show (v126 : Int32).toInt = v126.toInt from (ti_rfl v126)]; omega) (by rw [show (v126 : Int32).toInt = v126.toInt from (ti_rfl v126)]; omega) v132 (by rw [show (v132 : Int32).toInt = v132.toInt from (ti_rfl v132)]; omega) (by rw [show (v132 : Int32).toInt = v132.toInt from (ti_rfl v132)]; omega)) mL_X8_303 iM_X8_hang sM_X8_hang (hv124.sh rfl) rfl rfl rfl (Nat.le_of_ble_eq_true rfl) (show d + 4 + 1 + 1 ≤ d + 6 by omega) (show 8 + (3 + 11) + 40 * (d + 4 + 1) ≤ 40 * (d + 6) by omega) (g_c0 hv124.ln) (Nat.le_of_ble_eq_true rfl) dX8_laysWay_268 ?_
              intro r h133 hq _
              obtain ⟨rfl, hv133⟩ := hq
              refine gf_iinc (pc := 271) (Nat.le_of_ble_eq_true rfl) rfl (ti_rfl l5) (ti_c (by decide)) (by omega) (by omega) dX8_laysWay_271 (fun v134 e135 => ?_)
              refine go_lv (lv2 := [(0, .ref 70), (2, .int l2), (3, .long l3), (5, .int v134)]) rfl ?_
              refine go_goto (pc := 274) (tgt := 203) (by decide) dX8_laysWay_274 ?_
              have z136 : (v134 : Int32).toInt = (l5.toInt + 1) := e135
              exact go_lv rfl (ih.2.2.2.2.2.1 l2 l3 v134 h133 hv133 (by omega) (by omega) (by omega) (by omega) (by omega))
            ·
              refine go_bipush (pc := 259) (v := 8) (by decide) dX8_laysWay_259 ?_
              refine go_goto (pc := 261) (tgt := 265) (by decide) dX8_laysWay_261 ?_
              refine go_invS (pc := 265) (sl := 0) (s_X8_statementPlace l (d + 4) hv124 l2 (by rw [show (l2 : Int32).toInt = l2.toInt from (ti_rfl l2)]; omega) (by rw [show (l2 : Int32).toInt = l2.toInt from (ti_rfl l2)]; omega) 8 (by rw [show (8 : Int32).toInt = 8 from (ti_c (v := 8) (a := 8) (by decide))]; omega) (by rw [show (8 : Int32).toInt = 8 from (ti_c (v := 8) (a := 8) (by decide))]; omega)) mL_X8_291 iM_X8_statementPlace rfl rfl (Nat.le_of_ble_eq_true rfl) (show d + 4 + 1 + 1 ≤ d + 6 by omega) (show 8 + (2 + 11) + 40 * (d + 4 + 1) ≤ 40 * (d + 6) by omega) (g_c0 hv124.ln) (Nat.le_of_ble_eq_true rfl) dX8_laysWay_265 ?_
              intro r h137 hq _
              obtain ⟨v138, rfl, v138l, v138u, rfl⟩ := hq
              refine go_invV (pc := 268) (sl := 0) (s_X8_hang l (d + 4) hv124 v126 (by rw [show (v126 : Int32).toInt = v126.toInt from (ti_rfl v126)]; omega) (by rw [show (v126 : Int32).toInt = v126.toInt from (ti_rfl v126)]; omega) v138 (by rw [show (v138 : Int32).toInt = v138.toInt from (ti_rfl v138)]; omega) (by rw [show (v138 : Int32).toInt = v138.toInt from (ti_rfl v138)]; omega)) mL_X8_303 iM_X8_hang sM_X8_hang (hv124.sh rfl) rfl rfl rfl (Nat.le_of_ble_eq_true rfl) (show d + 4 + 1 + 1 ≤ d + 6 by omega) (show 8 + (3 + 11) + 40 * (d + 4 + 1) ≤ 40 * (d + 6) by omega) (g_c0 hv124.ln) (Nat.le_of_ble_eq_true rfl) dX8_laysWay_268 ?_
              intro r h139 hq _
              obtain ⟨rfl, hv139⟩ := hq
              refine gf_iinc (pc := 271) (Nat.le_of_ble_eq_true rfl) rfl (ti_rfl l5) (ti_c (by decide)) (by omega) (by omega) dX8_laysWay_271 (fun v140 e141 => ?_)
              refine go_lv (lv2 := [(0, .ref 70), (2, .int l2), (3, .long l3), (5, .int v140)]) rfl ?_
              refine go_goto (pc := 274) (tgt := 203) (by decide) dX8_laysWay_274 ?_
              have z142 : (v140 : Int32).toInt = (l5.toInt + 1) := e141
              exact go_lv rfl (ih.2.2.2.2.2.1 l2 l3 v140 h139 hv139 (by omega) (by omega) (by omega) (by omega) (by omega))
          ·
            refine go_goto (pc := 226) (tgt := 271) (by decide) dX8_laysWay_226 ?_
            refine gf_iinc (pc := 271) (Nat.le_of_ble_eq_true rfl) rfl (ti_rfl l5) (ti_c (by decide)) (by omega) (by omega) dX8_laysWay_271 (fun v143 e144 => ?_)
            refine go_lv (lv2 := [(0, .ref 70), (2, .int l2), (3, .long l3), (5, .int v143)]) rfl ?_
            refine go_goto (pc := 274) (tgt := 203) (by decide) dX8_laysWay_274 ?_
            have z145 : (v143 : Int32).toInt = (l5.toInt + 1) := e144
            exact go_lv rfl (ih.2.2.2.2.2.1 l2 l3 v143 hx hvx (by omega) (by omega) (by omega) (by omega) (by omega))
      ·
        intro l2 hx hvx l2l l2u hm
        refine go_iload_n (pc := 285) rfl dX8_laysWay_285 ?_
        refine go_aload_n (pc := 286) rfl dX8_laysWay_286 ?_
        refine gi_getF (pc := 287) (q := 76) hvx fL_X8_26 rfl (Nat.le_of_ble_eq_true rfl) rfl (hvx.rf (by decide)) dX8_laysWay_287 ?_
        refine go_aload_n (pc := 290) rfl dX8_laysWay_290 ?_
        refine gi_get (pc := 291) (lo := 0) (hi := 1) hvx fL_X8_187 rfl (Nat.le_of_ble_eq_true rfl) rfl rfl dX8_laysWay_291 (fun v146 v146l v146u v146w => ?_)
        have v146S : v146.toInt = S := by rw [v146w, hvx.fy (j := 6) (by omega), ← hv.fy (j := 6) (by omega)]; exact hS.symm
        refine gi_iald (pc := 294) (lo := 0) (hi := 5) (len := 2) hvx (ti_rfl v146) rfl (by omega) (by omega) (fun _ => rfl) dX8_laysWay_294 (fun v147 v147l v147u v147w => ?_)
        have v147V : v147.toInt = V h.2.1 76 S := by rw [v147w, v146S, hvx.fz (c := 76) (by omega) (by omega), ← hv.fz (c := 76) (by omega) (by omega)]; rfl
        refine gf_icmp_ge (pc := 295) (tgt := 375) (ti_rfl l2) (ti_rfl v147) (by decide) dX8_laysWay_295 (fun q148 => ?_) (fun q148 => ?_)
        ·
          refine go_iconst (pc := 375) (v := 0) (by decide) dX8_laysWay_375 ?_
          refine go_istore_n (pc := 376) (Nat.le_of_ble_eq_true rfl) dX8_laysWay_376 (go_lv (lv2 := [(0, .ref 70), (2, .int 0)]) rfl ?_)
          have z149 : (0 : Int32).toInt = 0 := (ti_c (v := 0) (a := 0) (by decide))
          exact go_lv rfl (ih.2.2.2.2.2.2.2.2.1 0 hx hvx (by omega) (by omega) (by omega))
        ·
          refine go_aload_n (pc := 298) rfl dX8_laysWay_298 ?_
          refine gi_getF (pc := 299) (q := 107) hvx fL_X8_121 rfl (Nat.le_of_ble_eq_true rfl) rfl (hvx.rf (by decide)) dX8_laysWay_299 ?_
          refine go_iload_n (pc := 302) rfl dX8_laysWay_302 ?_
          refine go_aload_n (pc := 303) rfl dX8_laysWay_303 ?_
          refine go_aload_n (pc := 304) rfl dX8_laysWay_304 ?_
          refine gi_getF (pc := 305) (q := 100) hvx fL_X8_98 rfl (Nat.le_of_ble_eq_true rfl) rfl (hvx.rf (by decide)) dX8_laysWay_305 ?_
          refine go_iconst (pc := 308) (v := 5) (by decide) dX8_laysWay_308 ?_
          refine go_aload_n (pc := 309) rfl dX8_laysWay_309 ?_
          refine gi_get (pc := 310) (lo := 0) (hi := 1) hvx fL_X8_187 rfl (Nat.le_of_ble_eq_true rfl) rfl rfl dX8_laysWay_310 (fun v150 v150l v150u v150w => ?_)
          have v150r : v146 = hx.2.1 70 6 := v146w
          have v150q : TI v150 v146.toInt := by rw [v150w.trans v150r.symm]; exact (ti_rfl v146)
          refine gf_imul (pc := 313) (ti_c (v := 5) (a := 5) (by decide)) v150q (by omega) (by omega) dX8_laysWay_313 (fun v151 e152 => ?_)
          refine go_iload_n (pc := 314) rfl dX8_laysWay_314 ?_
          refine gf_iadd (pc := 315) e152 (ti_rfl l2) (by omega) (by omega) dX8_laysWay_315 (fun v153 e154 => ?_)
          refine gi_iald (pc := 316) (lo := -1) (hi := 39) (len := 10) hvx e154 rfl (by omega) (by omega) (fun _ => rfl) dX8_laysWay_316 (fun v155 v155l v155u v155w => ?_)
          have v155V : v155.toInt = V h.2.1 100 (((5 * S) + l2.toInt)) := by rw [v155w, v146S, hvx.fz (c := 100) (by omega) (by omega), ← hv.fz (c := 100) (by omega) (by omega)]; rfl
          refine go_invV (pc := 317) (sl := 0) (s_X8_onAllFrom_x l (d + 4) hvx v155 (by rw [show (v155 : Int32).toInt = v155.toInt from (ti_rfl v155)]; omega) (by rw [show (v155 : Int32).toInt = v155.toInt from (ti_rfl v155)]; omega)) mL_X8_334 iM_X8_onAllFrom sM_X8_onAllFrom (hvx.sh rfl) rfl rfl rfl (Nat.le_of_ble_eq_true rfl) (show d + 4 + 1 + 1 ≤ d + 6 by omega) (show 8 + (2 + 11) + 40 * (d + 4 + 1) ≤ 40 * (d + 6) by omega) (g_c0 hvx.ln) (Nat.le_of_ble_eq_true rfl) dX8_laysWay_317 ?_
          intro r h156 hq _
          obtain ⟨v158, rfl, rfl, f157⟩ := hq
          refine gi_last (pc := 320) (len := 5) hvx (ti_rfl l2) rfl (by omega) (by omega) dX8_laysWay_320 (fun h159 hv159 hv159e => ?_)
          refine go_iconst (pc := 321) (v := 0) (by decide) dX8_laysWay_321 ?_
          refine go_istore_n (pc := 322) (Nat.le_of_ble_eq_true rfl) dX8_laysWay_322 (go_lv (lv2 := [(0, .ref 70), (2, .int l2), (3, .int 0)]) rfl ?_)
          have z160 : (0 : Int32).toInt = 0 := (ti_c (v := 0) (a := 0) (by decide))
          exact go_lv rfl (ih.2.2.2.2.2.2.2.1 l2 0 h159 hv159 (by omega) (by omega) (by omega) (by omega) (by omega))
      ·
        intro l2 l3 hx hvx l2l l2u l3l l3u hm
        refine go_iload_n (pc := 323) rfl dX8_laysWay_323 ?_
        refine go_aload_n (pc := 324) rfl dX8_laysWay_324 ?_
        refine gi_getF (pc := 325) (q := 75) hvx fL_X8_23 rfl (Nat.le_of_ble_eq_true rfl) rfl (hvx.rf (by decide)) dX8_laysWay_325 ?_
        refine go_aload_n (pc := 328) rfl dX8_laysWay_328 ?_
        refine gi_get (pc := 329) (lo := 0) (hi := 1) hvx fL_X8_187 rfl (Nat.le_of_ble_eq_true rfl) rfl rfl dX8_laysWay_329 (fun v161 v161l v161u v161w => ?_)
        have v161S : v161.toInt = S := by rw [v161w, hvx.fy (j := 6) (by omega), ← hv.fy (j := 6) (by omega)]; exact hS.symm
        refine gi_iald (pc := 332) (lo := 0) (hi := 40) (len := 2) hvx (ti_rfl v161) rfl (by omega) (by omega) (fun _ => rfl) dX8_laysWay_332 (fun v162 v162l v162u v162w => ?_)
        have v162V : v162.toInt = V h.2.1 75 S := by rw [v162w, v161S, hvx.fz (c := 75) (by omega) (by omega), ← hv.fz (c := 75) (by omega) (by omega)]; rfl
        refine gf_icmp_ge (pc := 333) (tgt := 369) (ti_rfl l3) (ti_rfl v162) (by decide) dX8_laysWay_333 (fun q163 => ?_) (fun q163 => ?_)
        ·
          refine gf_iinc (pc := 369) (Nat.le_of_ble_eq_true rfl) rfl (ti_rfl l2) (ti_c (by decide)) (by omega) (by omega) dX8_laysWay_369 (fun v164 e165 => ?_)
          refine go_lv (lv2 := [(0, .ref 70), (2, .int v164), (3, .int l3)]) rfl ?_
          refine go_goto (pc := 372) (tgt := 285) (by decide) dX8_laysWay_372 ?_
          have z166 : (v164 : Int32).toInt = (l2.toInt + 1) := e165
          exact go_lv rfl (ih.2.2.2.2.2.2.1 v164 hx hvx (by omega) (by omega) (by omega))
        ·
          refine go_aload_n (pc := 336) rfl dX8_laysWay_336 ?_
          refine gi_getF (pc := 337) (q := 107) hvx fL_X8_121 rfl (Nat.le_of_ble_eq_true rfl) rfl (hvx.rf (by decide)) dX8_laysWay_337 ?_
          refine go_iload_n (pc := 340) rfl dX8_laysWay_340 ?_
          refine gi_lald (pc := 341) (len := 5) hvx (ti_rfl l2) rfl (by omega) (by omega) dX8_laysWay_341 (fun v167 v167w => ?_)
          refine go_iload_n (pc := 342) rfl dX8_laysWay_342 ?_
          refine go_invS (pc := 343) (sl := 0) (s_X8_has l (d + 4) hvx v167 l3) mL_X8_280 iM_X8_has rfl rfl (Nat.le_of_ble_eq_true rfl) (show d + 4 + 1 + 1 ≤ d + 6 by omega) (show 8 + (3 + 11) + 40 * (d + 4 + 1) ≤ 40 * (d + 6) by omega) (g_c0 hvx.ln) (Nat.le_of_ble_eq_true rfl) dX8_laysWay_343 ?_
          intro r h168 hq _
          obtain ⟨v169, rfl, v169l, v169u, rfl⟩ := hq
          refine gf_if_eq (pc := 346) (tgt := 363) (ti_rfl v169) (by decide) dX8_laysWay_346 (fun q170 => ?_) (fun q170 => ?_)
          ·
            refine gf_iinc (pc := 363) (Nat.le_of_ble_eq_true rfl) rfl (ti_rfl l3) (ti_c (by decide)) (by omega) (by omega) dX8_laysWay_363 (fun v171 e172 => ?_)
            refine go_lv (lv2 := [(0, .ref 70), (2, .int l2), (3, .int v171)]) rfl ?_
            refine go_goto (pc := 366) (tgt := 323) (by decide) dX8_laysWay_366 ?_
            have z173 : (v171 : Int32).toInt = (l3.toInt + 1) := e172
            exact go_lv rfl (ih.2.2.2.2.2.2.2.1 l2 v171 hx hvx (by omega) (by omega) (by omega) (by omega) (by omega))
          ·
            refine go_aload_n (pc := 349) rfl dX8_laysWay_349 ?_
            refine go_iload_n (pc := 350) rfl dX8_laysWay_350 ?_
            refine go_iconst (pc := 351) (v := 0) (by decide) dX8_laysWay_351 ?_
            refine go_invS (pc := 352) (sl := 0) (s_X8_statementPlace l (d + 4) hvx l3 (by rw [show (l3 : Int32).toInt = l3.toInt from (ti_rfl l3)]; omega) (by rw [show (l3 : Int32).toInt = l3.toInt from (ti_rfl l3)]; omega) 0 (by rw [show (0 : Int32).toInt = 0 from (ti_c (v := 0) (a := 0) (by decide))]; omega) (by rw [show (0 : Int32).toInt = 0 from (ti_c (v := 0) (a := 0) (by decide))]; omega)) mL_X8_291 iM_X8_statementPlace rfl rfl (Nat.le_of_ble_eq_true rfl) (show d + 4 + 1 + 1 ≤ d + 6 by omega) (show 8 + (2 + 11) + 40 * (d + 4 + 1) ≤ 40 * (d + 6) by omega) (g_c0 hvx.ln) (Nat.le_of_ble_eq_true rfl) dX8_laysWay_352 ?_
            intro r h174 hq _
            obtain ⟨v175, rfl, v175l, v175u, rfl⟩ := hq
            refine go_iload_n (pc := 355) rfl dX8_laysWay_355 ?_
            refine go_iconst (pc := 356) (v := 0) (by decide) dX8_laysWay_356 ?_
            refine go_invS (pc := 357) (sl := 0) (s_X8_procedurePlace l (d + 4) hvx l2 (by rw [show (l2 : Int32).toInt = l2.toInt from (ti_rfl l2)]; omega) (by rw [show (l2 : Int32).toInt = l2.toInt from (ti_rfl l2)]; omega) 0 (by rw [show (0 : Int32).toInt = 0 from (ti_c (v := 0) (a := 0) (by decide))]; omega) (by rw [show (0 : Int32).toInt = 0 from (ti_c (v := 0) (a := 0) (by decide))]; omega)) mL_X8_300 iM_X8_procedurePlace rfl rfl (Nat.le_of_ble_eq_true rfl) (show d + 4 + 1 + 1 ≤ d + 6 by omega) (show 8 + (2 + 11) + 40 * (d + 4 + 1) ≤ 40 * (d + 6) by omega) (g_c0 hvx.ln) (Nat.le_of_ble_eq_true rfl) dX8_laysWay_357 ?_
            intro r h176 hq _
            obtain ⟨v177, rfl, v177l, v177u, rfl⟩ := hq
            refine go_invV (pc := 360) (sl := 0) (s_X8_hang l (d + 4) hvx v175 (by rw [show (v175 : Int32).toInt = v175.toInt from (ti_rfl v175)]; omega) (by rw [show (v175 : Int32).toInt = v175.toInt from (ti_rfl v175)]; omega) v177 (by rw [show (v177 : Int32).toInt = v177.toInt from (ti_rfl v177)]; omega) (by rw [show (v177 : Int32).toInt = v177.toInt from (ti_rfl v177)]; omega)) mL_X8_303 iM_X8_hang sM_X8_hang (hvx.sh rfl) rfl rfl rfl (Nat.le_of_ble_eq_true rfl) (show d + 4 + 1 + 1 ≤ d + 6 by omega) (show 8 + (3 + 11) + 40 * (d + 4 + 1) ≤ 40 * (d + 6) by omega) (g_c0 hvx.ln) (Nat.le_of_ble_eq_true rfl) dX8_laysWay_360 ?_
            intro r h178 hq _
            obtain ⟨rfl, hv178⟩ := hq
            refine gf_iinc (pc := 363) (Nat.le_of_ble_eq_true rfl) rfl (ti_rfl l3) (ti_c (by decide)) (by omega) (by omega) dX8_laysWay_363 (fun v179 e180 => ?_)
            refine go_lv (lv2 := [(0, .ref 70), (2, .int l2), (3, .int v179)]) rfl ?_
            refine go_goto (pc := 366) (tgt := 323) (by decide) dX8_laysWay_366 ?_
            have z181 : (v179 : Int32).toInt = (l3.toInt + 1) := e180
            exact go_lv rfl (ih.2.2.2.2.2.2.2.1 l2 v179 h178 hv178 (by omega) (by omega) (by omega) (by omega) (by omega))
      ·
        intro l2 hx hvx l2l l2u hm
        refine go_iload_n (pc := 377) rfl dX8_laysWay_377 ?_
        refine go_aload_n (pc := 378) rfl dX8_laysWay_378 ?_
        refine gi_getF (pc := 379) (q := 75) hvx fL_X8_23 rfl (Nat.le_of_ble_eq_true rfl) rfl (hvx.rf (by decide)) dX8_laysWay_379 ?_
        refine go_aload_n (pc := 382) rfl dX8_laysWay_382 ?_
        refine gi_get (pc := 383) (lo := 0) (hi := 1) hvx fL_X8_187 rfl (Nat.le_of_ble_eq_true rfl) rfl rfl dX8_laysWay_383 (fun v182 v182l v182u v182w => ?_)
        have v182S : v182.toInt = S := by rw [v182w, hvx.fy (j := 6) (by omega), ← hv.fy (j := 6) (by omega)]; exact hS.symm
        refine gi_iald (pc := 386) (lo := 0) (hi := 40) (len := 2) hvx (ti_rfl v182) rfl (by omega) (by omega) (fun _ => rfl) dX8_laysWay_386 (fun v183 v183l v183u v183w => ?_)
        have v183V : v183.toInt = V h.2.1 75 S := by rw [v183w, v182S, hvx.fz (c := 75) (by omega) (by omega), ← hv.fz (c := 75) (by omega) (by omega)]; rfl
        refine gf_icmp_ge (pc := 387) (tgt := 433) (ti_rfl l2) (ti_rfl v183) (by decide) dX8_laysWay_387 (fun q184 => ?_) (fun q184 => ?_)
        ·
          exact gi_vret (pc := 433) ⟨rfl, hvx⟩ hvx dX8_laysWay_433
        ·
          refine go_iconst (pc := 390) (v := 1) (by decide) dX8_laysWay_390 ?_
          refine go_istore_n (pc := 391) (Nat.le_of_ble_eq_true rfl) dX8_laysWay_391 (go_lv (lv2 := [(0, .ref 70), (2, .int l2), (3, .int 1)]) rfl ?_)
          have z185 : (1 : Int32).toInt = 1 := (ti_c (v := 1) (a := 1) (by decide))
          exact go_lv rfl (ih.2.2.2.2.2.2.2.2.2 l2 1 hx hvx (by omega) (by omega) (by omega) (by omega) (by omega))
      ·
        intro l2 l3 hx hvx l2l l2u l3l l3u hm
        refine go_iload_n (pc := 392) rfl dX8_laysWay_392 ?_
        refine go_bipush (pc := 393) (v := 13) (by decide) dX8_laysWay_393 ?_
        refine gf_icmp_ge (pc := 395) (tgt := 427) (ti_rfl l3) (ti_c (v := 13) (a := 13) (by decide)) (by decide) dX8_laysWay_395 (fun q186 => ?_) (fun q186 => ?_)
        ·
          refine gf_iinc (pc := 427) (Nat.le_of_ble_eq_true rfl) rfl (ti_rfl l2) (ti_c (by decide)) (by omega) (by omega) dX8_laysWay_427 (fun v187 e188 => ?_)
          refine go_lv (lv2 := [(0, .ref 70), (2, .int v187), (3, .int l3)]) rfl ?_
          refine go_goto (pc := 430) (tgt := 377) (by decide) dX8_laysWay_430 ?_
          have z189 : (v187 : Int32).toInt = (l2.toInt + 1) := e188
          exact go_lv rfl (ih.2.2.2.2.2.2.2.2.1 v187 hx hvx (by omega) (by omega) (by omega))
        ·
          refine go_aload_n (pc := 398) rfl dX8_laysWay_398 ?_
          refine go_iload_n (pc := 399) rfl dX8_laysWay_399 ?_
          refine go_invV (pc := 400) (sl := 0) (s_X8_kindAt l (d + 3) hvx l2 (by rw [show (l2 : Int32).toInt = l2.toInt from (ti_rfl l2)]; omega) (by rw [show (l2 : Int32).toInt = l2.toInt from (ti_rfl l2)]; omega)) mL_X8_271 iM_X8_kindAt sM_X8_kindAt (hvx.sh rfl) rfl rfl rfl (Nat.le_of_ble_eq_true rfl) (show d + 3 + 2 + 1 ≤ d + 6 by omega) (show 8 + (2 + 11) + 40 * (d + 3 + 2) ≤ 40 * (d + 6) by omega) (g_c0 hvx.ln) (Nat.le_of_ble_eq_true rfl) dX8_laysWay_400 ?_
          intro r h190 hq _
          obtain ⟨v192, rfl, v192l, v192u, rfl, f191⟩ := hq
          have v192K : v192.toInt = V h.2.1 77 (V h.2.1 93 (40 * S + l2.toInt)) := by rw [f191]; unfold g_kd g_it; rw [hvx.fy (j := 6) (by omega), ← hv.fy (j := 6) (by omega), ← hS, hvx.fz (c := 93) (by omega) (by omega), ← hv.fz (c := 93) (by omega) (by omega), hvx.fz (c := 77) (by omega) (by omega), ← hv.fz (c := 77) (by omega) (by omega)]; rfl
          refine go_iconst (pc := 403) (v := 1) (by decide) dX8_laysWay_403 ?_
          refine gf_icmp_ne (pc := 404) (tgt := 427) (ti_rfl v192) (ti_c (v := 1) (a := 1) (by decide)) (by decide) dX8_laysWay_404 (fun q193 => ?_) (fun q193 => ?_)
          ·
            refine gf_iinc (pc := 427) (Nat.le_of_ble_eq_true rfl) rfl (ti_rfl l2) (ti_c (by decide)) (by omega) (by omega) dX8_laysWay_427 (fun v194 e195 => ?_)
            refine go_lv (lv2 := [(0, .ref 70), (2, .int v194), (3, .int l3)]) rfl ?_
            refine go_goto (pc := 430) (tgt := 377) (by decide) dX8_laysWay_430 ?_
            have z196 : (v194 : Int32).toInt = (l2.toInt + 1) := e195
            exact go_lv rfl (ih.2.2.2.2.2.2.2.2.1 v194 hx hvx (by omega) (by omega) (by omega))
          ·
            refine go_aload_n (pc := 407) rfl dX8_laysWay_407 ?_
            refine go_iload_n (pc := 408) rfl dX8_laysWay_408 ?_
            refine go_iload_n (pc := 409) rfl dX8_laysWay_409 ?_
            refine go_invS (pc := 410) (sl := 0) (s_X8_statementPlace l (d + 4) hvx l2 (by rw [show (l2 : Int32).toInt = l2.toInt from (ti_rfl l2)]; omega) (by rw [show (l2 : Int32).toInt = l2.toInt from (ti_rfl l2)]; omega) l3 (by rw [show (l3 : Int32).toInt = l3.toInt from (ti_rfl l3)]; omega) (by rw [show (l3 : Int32).toInt = l3.toInt from (ti_rfl l3)]; omega)) mL_X8_291 iM_X8_statementPlace rfl rfl (Nat.le_of_ble_eq_true rfl) (show d + 4 + 1 + 1 ≤ d + 6 by omega) (show 8 + (2 + 11) + 40 * (d + 4 + 1) ≤ 40 * (d + 6) by omega) (g_c0 hvx.ln) (Nat.le_of_ble_eq_true rfl) dX8_laysWay_410 ?_
            intro r h197 hq _
            obtain ⟨v198, rfl, v198l, v198u, rfl⟩ := hq
            refine go_iload_n (pc := 413) rfl dX8_laysWay_413 ?_
            refine go_iconst (pc := 414) (v := 0) (by decide) dX8_laysWay_414 ?_
            refine go_invS (pc := 415) (sl := 0) (s_X8_statementPlace l (d + 4) hvx l2 (by rw [show (l2 : Int32).toInt = l2.toInt from (ti_rfl l2)]; omega) (by rw [show (l2 : Int32).toInt = l2.toInt from (ti_rfl l2)]; omega) 0 (by rw [show (0 : Int32).toInt = 0 from (ti_c (v := 0) (a := 0) (by decide))]; omega) (by rw [show (0 : Int32).toInt = 0 from (ti_c (v := 0) (a := 0) (by decide))]; omega)) mL_X8_291 iM_X8_statementPlace rfl rfl (Nat.le_of_ble_eq_true rfl) (show d + 4 + 1 + 1 ≤ d + 6 by omega) (show 8 + (2 + 11) + 40 * (d + 4 + 1) ≤ 40 * (d + 6) by omega) (g_c0 hvx.ln) (Nat.le_of_ble_eq_true rfl) dX8_laysWay_415 ?_
            intro r h199 hq _
            obtain ⟨v200, rfl, v200l, v200u, rfl⟩ := hq
            refine go_invV (pc := 418) (sl := 0) (s_X8_hang l (d + 4) hvx v198 (by rw [show (v198 : Int32).toInt = v198.toInt from (ti_rfl v198)]; omega) (by rw [show (v198 : Int32).toInt = v198.toInt from (ti_rfl v198)]; omega) v200 (by rw [show (v200 : Int32).toInt = v200.toInt from (ti_rfl v200)]; omega) (by rw [show (v200 : Int32).toInt = v200.toInt from (ti_rfl v200)]; omega)) mL_X8_303 iM_X8_hang sM_X8_hang (hvx.sh rfl) rfl rfl rfl (Nat.le_of_ble_eq_true rfl) (show d + 4 + 1 + 1 ≤ d + 6 by omega) (show 8 + (3 + 11) + 40 * (d + 4 + 1) ≤ 40 * (d + 6) by omega) (g_c0 hvx.ln) (Nat.le_of_ble_eq_true rfl) dX8_laysWay_418 ?_
            intro r h201 hq _
            obtain ⟨rfl, hv201⟩ := hq
            refine gf_iinc (pc := 421) (Nat.le_of_ble_eq_true rfl) rfl (ti_rfl l3) (ti_c (by decide)) (by omega) (by omega) dX8_laysWay_421 (fun v202 e203 => ?_)
            refine go_lv (lv2 := [(0, .ref 70), (2, .int l2), (3, .int v202)]) rfl ?_
            refine go_goto (pc := 424) (tgt := 392) (by decide) dX8_laysWay_424 ?_
            have z204 : (v202 : Int32).toInt = (l3.toInt + 1) := e203
            exact go_lv rfl (ih.2.2.2.2.2.2.2.2.2 l2 v202 h201 hv201 (by omega) (by omega) (by omega) (by omega) (by omega))
  refine go_iconst (pc := 0) (v := 0) (by decide) dX8_laysWay_0 ?_
  refine go_istore_n (pc := 1) (Nat.le_of_ble_eq_true rfl) dX8_laysWay_1 (go_lv (lv2 := [(0, .ref 70), (1, .int 0)]) rfl ?_)
  have z205 : (0 : Int32).toInt = 0 := (ti_c (v := 0) (a := 0) (by decide))
  exact go_lv rfl ((key 2000000000000000000000001).1 0 h hv (by omega) (by omega) (fun j q => absurd q (by omega)) (by omega))
