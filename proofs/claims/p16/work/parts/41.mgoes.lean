theorem hb_ks {F G : FN} (h : KS F G) (y x : Int) : hb G y x ↔ hb F y x := by unfold hb; rw [h 103 _ (by omega) (by omega) (by omega)]
theorem KS.ve {F G : FN} (h : KS F G) : VE F G := fun c j a b => h c j (by omega) (by omega) (by omega)
theorem KS.ckf {F G : FN} (h : KS F G) (k : CKF F) : CKF G := CKF.ve h.ve k
/-- what goes through a call -/
def tb (F : FN) (k i : Int) : Prop := (F 108 k.toNat).toBitVec.getLsbD i.toNat = true
theorem tb_ks {F G : FN} (h : KS F G) (k i : Int) : tb G k i ↔ tb F k i := by unfold tb; rw [h 108 _ (by omega) (by omega) (by omega)]
def E0 (F : FN) (S y x : Int) : Prop := hb F y x ∨ (y < 520 ∧ y / 13 < V F 75 S ∧ V F 77 (V F 93 (40 * S + y / 13)) = 1 ∧ 7 ≤ y % 13 ∧ ∃ i, 0 ≤ i ∧ i < 6 ∧ tb F (6 * V F 84 (V F 93 (40 * S + y / 13)) + y % 13 - 7) i ∧ x = y - y % 13 + 1 + i)
def cl0 (F : FN) (S : Int) (C : Int → Prop) : Prop := ∀ y x, 0 ≤ y → y < 585 → 0 ≤ x → x < 585 → C y → E0 F S y x → C x
def GS (F G : FN) (S : Int) : Prop := ∀ C : Int → Prop, cl0 F S C → (∀ x, 0 ≤ x → x < 585 → sb F 109 x → C x) → ∀ x, 0 ≤ x → x < 585 → sb G 109 x → C x
def FC (F G : FN) (S y0 : Int) : Prop := ∀ y, 0 ≤ y → y < 585 → sb G 109 y → (∀ x, 0 ≤ x → x < 585 → E0 F S y x → sb G 109 x) ∨ (∃ j, 0 ≤ j ∧ j < WT G ∧ V G 110 j = y) ∨ y = y0
def FR (G : FN) : Prop := ∀ j, 0 ≤ j → j < WT G → sb G 109 (V G 110 j)
def GQ (F G : FN) (S y0 : Int) : Prop := PH F G ∧ GS F G S ∧ FC F G S y0 ∧ FR G
theorem GQ.init {F : FN} {S : Int} (h : WT F ≤ ct F 109) (c : FC F F S (-1)) (r : FR F) : GQ F F S (-1) := ⟨PH.rfl h, fun _ _ q => q, c, r⟩
theorem GQ.reach {F G H : FN} {S y0 x : Int} (g : GQ F G S y0) (r : RC G H x) (h0 : 0 ≤ x) (h1 : x < 585) (hw : 0 ≤ WT G) (y1 : 0 ≤ y0) (y2 : y0 < 585) (hy : sb G 109 y0) (e : E0 F S y0 x) (hr : ∀ j, 0 ≤ V G 110 j ∧ V G 110 j < 585) : GQ F H S y0 ∧ sb H 109 x ∧ sb H 109 y0 ∧ SU 109 G H := by
  obtain ⟨g1, g2, g3, g4⟩ := g
  have p : PH G H := r.ph h0 h1 g1.1
  have su : SU 109 G H := r.su
  refine ⟨⟨g1.trans p, fun C hc hs z a b q => ?_, fun y a b q => ?_, fun j a b => ?_⟩, (r.1 x h0 (by omega)).mpr (Or.inr rfl), su y0 y1 (by omega) hy, su⟩
  · rcases (r.1 z a (by omega)).mp q with w | w
    · exact g2 C hc hs z a b w
    · rw [w]; exact hc y0 x y1 y2 h0 h1 (g2 C hc hs y0 y1 y2 hy) e
  · have old : sb G 109 y → (∀ x, 0 ≤ x → x < 585 → E0 F S y x → sb H 109 x) ∨ (∃ j, 0 ≤ j ∧ j < WT H ∧ V H 110 j = y) ∨ y = y0 := fun w => by
      rcases g3 y a b w with v | ⟨j, v1, v2, v3⟩ | v
      · exact Or.inl (fun x' a' b' e' => su x' a' (by omega) (v x' a' b' e'))
      · rcases r.2.1 with ⟨_, k2, k3⟩ | ⟨_, k2, _, k4⟩
        · exact Or.inr (Or.inl ⟨j, v1, by omega, by rw [k3]; exact v3⟩)
        · exact Or.inr (Or.inl ⟨j, v1, by omega, by rw [k4 j v1 (by omega)]; exact v3⟩)
      · exact Or.inr (Or.inr v)
    rcases (r.1 y a (by omega)).mp q with w | w
    · exact old w
    · rcases r.2.1 with ⟨k1, _, _⟩ | ⟨_, k2, k3, _⟩
      · exact old (by rw [w]; exact k1)
      · exact Or.inr (Or.inl ⟨WT G, hw, by omega, by rw [k3, w]⟩)
  · rcases r.2.1 with ⟨k1, k2, k3⟩ | ⟨k1, k2, k3, k4⟩
    · rw [k3]; exact su _ (hr j).1 (by have := (hr j).2; omega) (g4 j a (by omega))
    · by_cases w : j = WT G
      · rw [w, k3]; exact (r.1 x h0 (by omega)).mpr (Or.inr rfl)
      · rw [k4 j a w]; exact su _ (hr j).1 (by have := (hr j).2; omega) (g4 j a (by omega))
theorem GQ.pop {F G : FN} {S : Int} {z : Int32} (g : GQ F G S (-1)) (hz : z.toInt = WT G - 1) (hw : 1 ≤ WT G) : GQ F (fun p q => if p = 70 ∧ q = 47 then z else G p q) S (V G 110 (WT G - 1)) ∧ sb (fun p q => if p = 70 ∧ q = 47 then z else G p q) 109 (V G 110 (WT G - 1)) := by
  obtain ⟨g1, g2, g3, g4⟩ := g
  obtain ⟨p1, p2, p3⟩ := PH.pop (F := G) g1.1 hz
  have e9 : ∀ j, (fun (p q : Nat) => if p = 70 ∧ q = 47 then z else G p q) 109 j = G 109 j := fun j => by
    show (if 109 = 70 ∧ j = 47 then z else G 109 j) = _
    rw [if_neg (by omega)]
  have e10 : ∀ j, V (fun p q => if p = 70 ∧ q = 47 then z else G p q) 110 j = V G 110 j := fun j => by
    show (if 110 = 70 ∧ j.toNat = 47 then z else G 110 j.toNat).toInt = _
    rw [if_neg (by omega)]; rfl
  refine ⟨⟨g1.trans p1, fun C hc hs x a b q => g2 C hc hs x a b ((sb_congr e9 x).mp q), fun y a b q => ?_, fun j a b => ?_⟩, ?_⟩
  · rcases g3 y a b ((sb_congr e9 y).mp q) with v | ⟨j, v1, v2, v3⟩ | v
    · exact Or.inl (fun x' a' b' e' => (sb_congr e9 x').mpr (v x' a' b' e'))
    · by_cases w : j = WT G - 1
      · exact Or.inr (Or.inr (by rw [← v3, w]))
      · exact Or.inr (Or.inl ⟨j, v1, by rw [p2]; omega, by rw [e10]; exact v3⟩)
    · omega
  · rw [e10]
    rw [p2] at b
    exact (sb_congr e9 _).mpr (g4 j a (by omega))
  · exact (sb_congr e9 _).mpr (g4 _ (by omega) (by omega))
theorem GQ.done {F G : FN} {S y0 : Int} (g : GQ F G S y0) (h : ∀ x, 0 ≤ x → x < 585 → E0 F S y0 x → sb G 109 x) : GQ F G S (-1) := by
  obtain ⟨g1, g2, g3, g4⟩ := g
  refine ⟨g1, g2, fun y a b q => ?_, g4⟩
  rcases g3 y a b q with v | v | v
  · exact Or.inl v
  · exact Or.inr (Or.inl v)
  · exact Or.inl (by rw [v]; exact h)
theorem GQ.fin {F G : FN} {S : Int} (g : GQ F G S (-1)) (hw : WT G ≤ 0) : ∀ y x, 0 ≤ y → y < 585 → 0 ≤ x → x < 585 → sb G 109 y → E0 F S y x → sb G 109 x := by
  intro y x a b a' b' q e
  rcases g.2.2.1 y a b q with v | ⟨j, v1, v2, _⟩ | v
  · exact v x a' b' e
  · omega
  · omega
/-- what going on within procedures and through calls gives: all that is reached, and no more -/
def GF (F G : FN) (S : Int) : Prop := GS F G S ∧ (∀ y x, 0 ≤ y → y < 585 → 0 ≤ x → x < 585 → sb G 109 y → E0 F S y x → sb G 109 x) ∧ SU 109 F G ∧ KS F G
theorem dX8_goes_0 : decode cX8_goes 0 = .ok (.aload_n 0, 1) := by decide +kernel
theorem dX8_goes_1 : decode cX8_goes 1 = .ok (.getfield 344, 3) := by decide +kernel
theorem dX8_goes_4 : decode cX8_goes 4 = .ok (.ifCond .le 214, 3) := by decide +kernel
theorem dX8_goes_7 : decode cX8_goes 7 = .ok (.aload_n 0, 1) := by decide +kernel
theorem dX8_goes_8 : decode cX8_goes 8 = .ok (.dup, 1) := by decide +kernel
theorem dX8_goes_9 : decode cX8_goes 9 = .ok (.getfield 344, 3) := by decide +kernel
theorem dX8_goes_12 : decode cX8_goes 12 = .ok (.iconst 1, 1) := by decide +kernel
theorem dX8_goes_13 : decode cX8_goes 13 = .ok (.isub, 1) := by decide +kernel
theorem dX8_goes_14 : decode cX8_goes 14 = .ok (.putfield 344, 3) := by decide +kernel
theorem dX8_goes_17 : decode cX8_goes 17 = .ok (.aload_n 0, 1) := by decide +kernel
theorem dX8_goes_18 : decode cX8_goes 18 = .ok (.getfield 130, 3) := by decide +kernel
theorem dX8_goes_21 : decode cX8_goes 21 = .ok (.aload_n 0, 1) := by decide +kernel
theorem dX8_goes_22 : decode cX8_goes 22 = .ok (.getfield 344, 3) := by decide +kernel
theorem dX8_goes_25 : decode cX8_goes 25 = .ok (.iaload, 1) := by decide +kernel
theorem dX8_goes_26 : decode cX8_goes 26 = .ok (.istore_n 3, 1) := by decide +kernel
theorem dX8_goes_27 : decode cX8_goes 27 = .ok (.iconst 0, 1) := by decide +kernel
theorem dX8_goes_28 : decode cX8_goes 28 = .ok (.istore 4, 2) := by decide +kernel
theorem dX8_goes_30 : decode cX8_goes 30 = .ok (.iload 4, 2) := by decide +kernel
theorem dX8_goes_32 : decode cX8_goes 32 = .ok (.sipush 585, 3) := by decide +kernel
theorem dX8_goes_35 : decode cX8_goes 35 = .ok (.if_icmp .ge 25, 3) := by decide +kernel
theorem dX8_goes_38 : decode cX8_goes 38 = .ok (.aload_n 0, 1) := by decide +kernel
theorem dX8_goes_39 : decode cX8_goes 39 = .ok (.iload_n 3, 1) := by decide +kernel
theorem dX8_goes_40 : decode cX8_goes 40 = .ok (.iload 4, 2) := by decide +kernel
theorem dX8_goes_42 : decode cX8_goes 42 = .ok (.invokevirtual 326, 3) := by decide +kernel
theorem dX8_goes_45 : decode cX8_goes 45 = .ok (.ifCond .eq 9, 3) := by decide +kernel
theorem dX8_goes_48 : decode cX8_goes 48 = .ok (.aload_n 0, 1) := by decide +kernel
theorem dX8_goes_49 : decode cX8_goes 49 = .ok (.iload 4, 2) := by decide +kernel
theorem dX8_goes_51 : decode cX8_goes 51 = .ok (.invokevirtual 347, 3) := by decide +kernel
theorem dX8_goes_54 : decode cX8_goes 54 = .ok (.iinc 4 1, 3) := by decide +kernel
theorem dX8_goes_57 : decode cX8_goes 57 = .ok (.goto (-27), 3) := by decide +kernel
theorem dX8_goes_60 : decode cX8_goes 60 = .ok (.iload_n 3, 1) := by decide +kernel
theorem dX8_goes_61 : decode cX8_goes 61 = .ok (.sipush 520, 3) := by decide +kernel
theorem dX8_goes_64 : decode cX8_goes 64 = .ok (.if_icmp .ge 10, 3) := by decide +kernel
theorem dX8_goes_67 : decode cX8_goes 67 = .ok (.iload_n 3, 1) := by decide +kernel
theorem dX8_goes_68 : decode cX8_goes 68 = .ok (.bipush 13, 2) := by decide +kernel
theorem dX8_goes_70 : decode cX8_goes 70 = .ok (.irem, 1) := by decide +kernel
theorem dX8_goes_71 : decode cX8_goes 71 = .ok (.goto 11, 3) := by decide +kernel
theorem dX8_goes_74 : decode cX8_goes 74 = .ok (.iload_n 3, 1) := by decide +kernel
theorem dX8_goes_75 : decode cX8_goes 75 = .ok (.sipush 520, 3) := by decide +kernel
theorem dX8_goes_78 : decode cX8_goes 78 = .ok (.isub, 1) := by decide +kernel
theorem dX8_goes_79 : decode cX8_goes 79 = .ok (.bipush 13, 2) := by decide +kernel
theorem dX8_goes_81 : decode cX8_goes 81 = .ok (.irem, 1) := by decide +kernel
theorem dX8_goes_82 : decode cX8_goes 82 = .ok (.istore 4, 2) := by decide +kernel
theorem dX8_goes_84 : decode cX8_goes 84 = .ok (.aload_n 0, 1) := by decide +kernel
theorem dX8_goes_85 : decode cX8_goes 85 = .ok (.iload_n 3, 1) := by decide +kernel
theorem dX8_goes_86 : decode cX8_goes 86 = .ok (.invokevirtual 350, 3) := by decide +kernel
theorem dX8_goes_89 : decode cX8_goes 89 = .ok (.ifCond .eq 94, 3) := by decide +kernel
theorem dX8_goes_92 : decode cX8_goes 92 = .ok (.iload 4, 2) := by decide +kernel
theorem dX8_goes_94 : decode cX8_goes 94 = .ok (.bipush 7, 2) := by decide +kernel
theorem dX8_goes_96 : decode cX8_goes 96 = .ok (.if_icmp .lt 87, 3) := by decide +kernel
theorem dX8_goes_99 : decode cX8_goes 99 = .ok (.aload_n 0, 1) := by decide +kernel
theorem dX8_goes_100 : decode cX8_goes 100 = .ok (.getfield 50, 3) := by decide +kernel
theorem dX8_goes_103 : decode cX8_goes 103 = .ok (.aload_n 0, 1) := by decide +kernel
theorem dX8_goes_104 : decode cX8_goes 104 = .ok (.iload_n 3, 1) := by decide +kernel
theorem dX8_goes_105 : decode cX8_goes 105 = .ok (.bipush 13, 2) := by decide +kernel
theorem dX8_goes_107 : decode cX8_goes 107 = .ok (.idiv, 1) := by decide +kernel
theorem dX8_goes_108 : decode cX8_goes 108 = .ok (.invokevirtual 268, 3) := by decide +kernel
theorem dX8_goes_111 : decode cX8_goes 111 = .ok (.iaload, 1) := by decide +kernel
theorem dX8_goes_112 : decode cX8_goes 112 = .ok (.istore 5, 2) := by decide +kernel
theorem dX8_goes_114 : decode cX8_goes 114 = .ok (.iconst 0, 1) := by decide +kernel
theorem dX8_goes_115 : decode cX8_goes 115 = .ok (.istore 6, 2) := by decide +kernel
theorem dX8_goes_117 : decode cX8_goes 117 = .ok (.iload 6, 2) := by decide +kernel
theorem dX8_goes_119 : decode cX8_goes 119 = .ok (.bipush 6, 2) := by decide +kernel
theorem dX8_goes_121 : decode cX8_goes 121 = .ok (.if_icmp .ge 47, 3) := by decide +kernel
theorem dX8_goes_124 : decode cX8_goes 124 = .ok (.aload_n 0, 1) := by decide +kernel
theorem dX8_goes_125 : decode cX8_goes 125 = .ok (.getfield 124, 3) := by decide +kernel
theorem dX8_goes_128 : decode cX8_goes 128 = .ok (.bipush 6, 2) := by decide +kernel
theorem dX8_goes_130 : decode cX8_goes 130 = .ok (.iload 5, 2) := by decide +kernel
theorem dX8_goes_132 : decode cX8_goes 132 = .ok (.imul, 1) := by decide +kernel
theorem dX8_goes_133 : decode cX8_goes 133 = .ok (.iload 4, 2) := by decide +kernel
theorem dX8_goes_135 : decode cX8_goes 135 = .ok (.iadd, 1) := by decide +kernel
theorem dX8_goes_136 : decode cX8_goes 136 = .ok (.bipush 7, 2) := by decide +kernel
theorem dX8_goes_138 : decode cX8_goes 138 = .ok (.isub, 1) := by decide +kernel
theorem dX8_goes_139 : decode cX8_goes 139 = .ok (.iaload, 1) := by decide +kernel
theorem dX8_goes_140 : decode cX8_goes 140 = .ok (.iload 6, 2) := by decide +kernel
theorem dX8_goes_142 : decode cX8_goes 142 = .ok (.ishr, 1) := by decide +kernel
theorem dX8_goes_143 : decode cX8_goes 143 = .ok (.iconst 1, 1) := by decide +kernel
theorem dX8_goes_144 : decode cX8_goes 144 = .ok (.iand, 1) := by decide +kernel
theorem dX8_goes_145 : decode cX8_goes 145 = .ok (.iconst 1, 1) := by decide +kernel
theorem dX8_goes_146 : decode cX8_goes 146 = .ok (.if_icmp .ne 16, 3) := by decide +kernel
theorem dX8_goes_149 : decode cX8_goes 149 = .ok (.aload_n 0, 1) := by decide +kernel
theorem dX8_goes_150 : decode cX8_goes 150 = .ok (.iload_n 3, 1) := by decide +kernel
theorem dX8_goes_151 : decode cX8_goes 151 = .ok (.iload 4, 2) := by decide +kernel
theorem dX8_goes_153 : decode cX8_goes 153 = .ok (.isub, 1) := by decide +kernel
theorem dX8_goes_154 : decode cX8_goes 154 = .ok (.iconst 1, 1) := by decide +kernel
theorem dX8_goes_155 : decode cX8_goes 155 = .ok (.iadd, 1) := by decide +kernel
theorem dX8_goes_156 : decode cX8_goes 156 = .ok (.iload 6, 2) := by decide +kernel
theorem dX8_goes_158 : decode cX8_goes 158 = .ok (.iadd, 1) := by decide +kernel
theorem dX8_goes_159 : decode cX8_goes 159 = .ok (.invokevirtual 347, 3) := by decide +kernel
theorem dX8_goes_162 : decode cX8_goes 162 = .ok (.iinc 6 1, 3) := by decide +kernel
theorem dX8_goes_165 : decode cX8_goes 165 = .ok (.goto (-48), 3) := by decide +kernel
theorem dX8_goes_168 : decode cX8_goes 168 = .ok (.iload_n 2, 1) := by decide +kernel
theorem dX8_goes_169 : decode cX8_goes 169 = .ok (.ifCond .eq 14, 3) := by decide +kernel
theorem dX8_goes_172 : decode cX8_goes 172 = .ok (.aload_n 0, 1) := by decide +kernel
theorem dX8_goes_173 : decode cX8_goes 173 = .ok (.iload 5, 2) := by decide +kernel
theorem dX8_goes_175 : decode cX8_goes 175 = .ok (.iload 4, 2) := by decide +kernel
theorem dX8_goes_177 : decode cX8_goes 177 = .ok (.invokestatic 300, 3) := by decide +kernel
theorem dX8_goes_180 : decode cX8_goes 180 = .ok (.invokevirtual 347, 3) := by decide +kernel
theorem dX8_goes_183 : decode cX8_goes 183 = .ok (.iload_n 1, 1) := by decide +kernel
theorem dX8_goes_184 : decode cX8_goes 184 = .ok (.ifCond .eq 31, 3) := by decide +kernel
theorem dX8_goes_187 : decode cX8_goes 187 = .ok (.iload_n 3, 1) := by decide +kernel
theorem dX8_goes_188 : decode cX8_goes 188 = .ok (.sipush 520, 3) := by decide +kernel
theorem dX8_goes_191 : decode cX8_goes 191 = .ok (.if_icmp .lt 24, 3) := by decide +kernel
theorem dX8_goes_194 : decode cX8_goes 194 = .ok (.iload 4, 2) := by decide +kernel
theorem dX8_goes_196 : decode cX8_goes 196 = .ok (.bipush 7, 2) := by decide +kernel
theorem dX8_goes_198 : decode cX8_goes 198 = .ok (.if_icmp .ge 17, 3) := by decide +kernel
theorem dX8_goes_201 : decode cX8_goes 201 = .ok (.aload_n 0, 1) := by decide +kernel
theorem dX8_goes_202 : decode cX8_goes 202 = .ok (.iload_n 3, 1) := by decide +kernel
theorem dX8_goes_203 : decode cX8_goes 203 = .ok (.sipush 520, 3) := by decide +kernel
theorem dX8_goes_206 : decode cX8_goes 206 = .ok (.isub, 1) := by decide +kernel
theorem dX8_goes_207 : decode cX8_goes 207 = .ok (.bipush 13, 2) := by decide +kernel
theorem dX8_goes_209 : decode cX8_goes 209 = .ok (.idiv, 1) := by decide +kernel
theorem dX8_goes_210 : decode cX8_goes 210 = .ok (.iload 4, 2) := by decide +kernel
theorem dX8_goes_212 : decode cX8_goes 212 = .ok (.invokevirtual 353, 3) := by decide +kernel
theorem dX8_goes_215 : decode cX8_goes 215 = .ok (.goto (-215), 3) := by decide +kernel
theorem dX8_goes_218 : decode cX8_goes 218 = .ok (.return_, 1) := by decide +kernel
