theorem hb_ks {F G : FN} (h : KS F G) (y x : Int) : hb G y x ↔ hb F y x := by unfold hb; rw [h 103 _ (by omega) (by omega) (by omega)]
theorem KS.ve {F G : FN} (h : KS F G) : VE F G := fun c j a b => h c j (by omega) (by omega) (by omega)
theorem KS.ckf {F G : FN} (h : KS F G) (k : CKF F) : CKF G := CKF.ve h.ve k
/-- what goes through a call -/
def tb (F : FN) (k i : Int) : Prop := (F 108 k.toNat).toBitVec.getLsbD i.toNat = true
theorem tb_ks {F G : FN} (h : KS F G) (k i : Int) : tb G k i ↔ tb F k i := by unfold tb; rw [h 108 _ (by omega) (by omega) (by omega)]
def E0 (F : FN) (S y x : Int) : Prop := hb F y x ∨ (y < 520 ∧ y / 13 < V F 75 S ∧ V F 77 (V F 93 (40 * S + y / 13)) = 1 ∧ 7 ≤ y % 13 ∧ ∃ i, 0 ≤ i ∧ i < 6 ∧ tb F (6 * V F 84 (V F 93 (40 * S + y / 13)) + y % 13 - 7) i ∧ x = y - y % 13 + 1 + i)
def cl0 (F : FN) (S : Int) (C : Int → Prop) : Prop := ∀ y x, 0 ≤ y → y < 585 → 0 ≤ x → x < 585 → C y → E0 F S y x → C x
def GS (F G : FN) (S : Int) : Prop := ∀ C : Int → Prop, cl0 F S C → (∀ x, 0 ≤ x → x < 585 → sb F 109 x → C x) → ∀ x, 0 ≤ x → x < 585 → sb G 109 x → C x
def FC (F G : FN) (S y0 : Int) : Prop := ∀ y, 0 ≤ y → y < 585 → sb G 109 y → (∀ x, 0 ≤ x → x < 585 → E0 F S y x → sb G 109 x) ∨ (∃ j, 0 ≤ j ∧ j < WT G ∧ V G 110 j = y) ∨ y = y0
def FR (G : FN) : Prop := ∀ j, 0 ≤ j → j < WT G → sb G 109 (V G 110 j)
def GQ (F G : FN) (S y0 : Int) : Prop := PH F G ∧ GS F G S ∧ FC F G S y0 ∧ FR G
theorem GQ.init {F : FN} {S : Int} (h : WT F ≤ ct F 109) (c : FC F F S (-1)) (r : FR F) : GQ F F S (-1) := ⟨PH.rfl h, fun _ _ q => q, c, r⟩
theorem GQ.reach {F G H : FN} {S y0 x : Int} (g : GQ F G S y0) (r : RC G H x) (h0 : 0 ≤ x) (h1 : x < 585) (hw : 0 ≤ WT G) (y1 : 0 ≤ y0) (y2 : y0 < 585) (hy : sb G 109 y0) (e : E0 F S y0 x) (hr : ∀ j, 0 ≤ V G 110 j ∧ V G 110 j < 585) : GQ F H S y0 ∧ sb H 109 x ∧ sb H 109 y0 ∧ SU 109 G H := by
  obtain ⟨g1, g2, g3, g4⟩ := g
  have p : PH G H := r.ph h0 h1 g1.1
  have su : SU 109 G H := r.su
  refine ⟨⟨g1.trans p, fun C hc hs z a b q => ?_, fun y a b q => ?_, fun j a b => ?_⟩, (r.1 x h0 (by omega)).mpr (Or.inr rfl), su y0 y1 (by omega) hy, su⟩
  · rcases (r.1 z a (by omega)).mp q with w | w
    · exact g2 C hc hs z a b w
    · rw [w]; exact hc y0 x y1 y2 h0 h1 (g2 C hc hs y0 y1 y2 hy) e
  · have old : sb G 109 y → (∀ x, 0 ≤ x → x < 585 → E0 F S y x → sb H 109 x) ∨ (∃ j, 0 ≤ j ∧ j < WT H ∧ V H 110 j = y) ∨ y = y0 := fun w => by
      rcases g3 y a b w with v | ⟨j, v1, v2, v3⟩ | v
      · exact Or.inl (fun x' a' b' e' => su x' a' (by omega) (v x' a' b' e'))
      · rcases r.2.1 with ⟨_, k2, k3⟩ | ⟨_, k2, _, k4⟩
        · exact Or.inr (Or.inl ⟨j, v1, by omega, by rw [k3]; exact v3⟩)
        · exact Or.inr (Or.inl ⟨j, v1, by omega, by rw [k4 j v1 (by omega)]; exact v3⟩)
      · exact Or.inr (Or.inr v)
    rcases (r.1 y a (by omega)).mp q with w | w
    · exact old w
    · rcases r.2.1 with ⟨k1, _, _⟩ | ⟨_, k2, k3, _⟩
      · exact old (by rw [w]; exact k1)
      · exact Or.inr (Or.inl ⟨WT G, hw, by omega, by rw [k3, w]⟩)
  · rcases r.2.1 with ⟨k1, k2, k3⟩ | ⟨k1, k2, k3, k4⟩
    · rw [k3]; exact su _ (hr j).1 (by have := (hr j).2; omega) (g4 j a (by omega))
    · by_cases w : j = WT G
      · rw [w, k3]; exact (r.1 x h0 (by omega)).mpr (Or.inr rfl)
      · rw [k4 j a w]; exact su _ (hr j).1 (by have := (hr j).2; omega) (g4 j a (by omega))
theorem GQ.pop {F G : FN} {S : Int} {z : Int32} (g : GQ F G S (-1)) (hz : z.toInt = WT G - 1) (hw : 1 ≤ WT G) : GQ F (fun p q => if p = 70 ∧ q = 47 then z else G p q) S (V G 110 (WT G - 1)) ∧ sb (fun p q => if p = 70 ∧ q = 47 then z else G p q) 109 (V G 110 (WT G - 1)) := by
  obtain ⟨g1, g2, g3, g4⟩ := g
  obtain ⟨p1, p2, p3⟩ := PH.pop (F := G) g1.1 hz
  have e9 : ∀ j, (fun (p q : Nat) => if p = 70 ∧ q = 47 then z else G p q) 109 j = G 109 j := fun j => by
    show (if 109 = 70 ∧ j = 47 then z else G 109 j) = _
    rw [if_neg (by omega)]
  have e10 : ∀ j, V (fun p q => if p = 70 ∧ q = 47 then z else G p q) 110 j = V G 110 j := fun j => by
    show (if 110 = 70 ∧ j.toNat = 47 then z else G 110 j.toNat).toInt = _
    rw [if_neg (by omega)]; rfl
  refine ⟨⟨g1.trans p1, fun C hc hs x a b q => g2 C hc hs x a b ((sb_congr e9 x).mp q), fun y a b q => ?_, fun j a b => ?_⟩, ?_⟩
  · rcases g3 y a b ((sb_congr e9 y).mp q) with v | ⟨j, v1, v2, v3⟩ | v
    · exact Or.inl (fun x' a' b' e' => (sb_congr e9 x').mpr (v x' a' b' e'))
    · by_cases w : j = WT G - 1
      · exact Or.inr (Or.inr (by rw [← v3, w]))
      · exact Or.inr (Or.inl ⟨j, v1, by rw [p2]; omega, by rw [e10]; exact v3⟩)
    · omega
  · rw [e10]
    rw [p2] at b
    exact (sb_congr e9 _).mpr (g4 j a (by omega))
  · exact (sb_congr e9 _).mpr (g4 _ (by omega) (by omega))
theorem GQ.done {F G : FN} {S y0 : Int} (g : GQ F G S y0) (h : ∀ x, 0 ≤ x → x < 585 → E0 F S y0 x → sb G 109 x) : GQ F G S (-1) := by
  obtain ⟨g1, g2, g3, g4⟩ := g
  refine ⟨g1, g2, fun y a b q => ?_, g4⟩
  rcases g3 y a b q with v | v | v
  · exact Or.inl v
  · exact Or.inr (Or.inl v)
  · exact Or.inl (by rw [v]; exact h)
theorem GQ.fin {F G : FN} {S : Int} (g : GQ F G S (-1)) (hw : WT G ≤ 0) : ∀ y x, 0 ≤ y → y < 585 → 0 ≤ x → x < 585 → sb G 109 y → E0 F S y x → sb G 109 x := by
  intro y x a b a' b' q e
  rcases g.2.2.1 y a b q with v | ⟨j, v1, v2, _⟩ | v
  · exact v x a' b' e
  · omega
  · omega
/-- what going on within procedures and through calls gives: all that is reached, and no more -/
def GF (F G : FN) (S : Int) : Prop := GS F G S ∧ (∀ y x, 0 ≤ y → y < 585 → 0 ≤ x → x < 585 → sb G 109 y → E0 F S y x → sb G 109 x) ∧ SU 109 F G ∧ KS F G
theorem dX8_goes_0 : decode cX8_goes 0 = .ok (.aload_n 0, 1) := by decide +kernel
theorem dX8_goes_1 : decode cX8_goes 1 = .ok (.getfield 344, 3) := by decide +kernel
theorem dX8_goes_4 : decode cX8_goes 4 = .ok (.ifCond .le 214, 3) := by decide +kernel
theorem dX8_goes_7 : decode cX8_goes 7 = .ok (.aload_n 0, 1) := by decide +kernel
theorem dX8_goes_8 : decode cX8_goes 8 = .ok (.dup, 1) := by decide +kernel
theorem dX8_goes_9 : decode cX8_goes 9 = .ok (.getfield 344, 3) := by decide +kernel
theorem dX8_goes_12 : decode cX8_goes 12 = .ok (.iconst 1, 1) := by decide +kernel
theorem dX8_goes_13 : decode cX8_goes 13 = .ok (.isub, 1) := by decide +kernel
theorem dX8_goes_14 : decode cX8_goes 14 = .ok (.putfield 344, 3) := by decide +kernel
theorem dX8_goes_17 : decode cX8_goes 17 = .ok (.aload_n 0, 1) := by decide +kernel
theorem dX8_goes_18 : decode cX8_goes 18 = .ok (.getfield 130, 3) := by decide +kernel
theorem dX8_goes_21 : decode cX8_goes 21 = .ok (.aload_n 0, 1) := by decide +kernel
theorem dX8_goes_22 : decode cX8_goes 22 = .ok (.getfield 344, 3) := by decide +kernel
theorem dX8_goes_25 : decode cX8_goes 25 = .ok (.iaload, 1) := by decide +kernel
theorem dX8_goes_26 : decode cX8_goes 26 = .ok (.istore_n 3, 1) := by decide +kernel
theorem dX8_goes_27 : decode cX8_goes 27 = .ok (.iconst 0, 1) := by decide +kernel
theorem dX8_goes_28 : decode cX8_goes 28 = .ok (.istore 4, 2) := by decide +kernel
theorem dX8_goes_30 : decode cX8_goes 30 = .ok (.iload 4, 2) := by decide +kernel
theorem dX8_goes_32 : decode cX8_goes 32 = .ok (.sipush 585, 3) := by decide +kernel
theorem dX8_goes_35 : decode cX8_goes 35 = .ok (.if_icmp .ge 25, 3) := by decide +kernel
theorem dX8_goes_38 : decode cX8_goes 38 = .ok (.aload_n 0, 1) := by decide +kernel
theorem dX8_goes_39 : decode cX8_goes 39 = .ok (.iload_n 3, 1) := by decide +kernel
theorem dX8_goes_40 : decode cX8_goes 40 = .ok (.iload 4, 2) := by decide +kernel
theorem dX8_goes_42 : decode cX8_goes 42 = .ok (.invokevirtual 326, 3) := by decide +kernel
theorem dX8_goes_45 : decode cX8_goes 45 = .ok (.ifCond .eq 9, 3) := by decide +kernel
theorem dX8_goes_48 : decode cX8_goes 48 = .ok (.aload_n 0, 1) := by decide +kernel
theorem dX8_goes_49 : decode cX8_goes 49 = .ok (.iload 4, 2) := by decide +kernel
theorem dX8_goes_51 : decode cX8_goes 51 = .ok (.invokevirtual 347, 3) := by decide +kernel
theorem dX8_goes_54 : decode cX8_goes 54 = .ok (.iinc 4 1, 3) := by decide +kernel
theorem dX8_goes_57 : decode cX8_goes 57 = .ok (.goto (-27), 3) := by decide +kernel
theorem dX8_goes_60 : decode cX8_goes 60 = .ok (.iload_n 3, 1) := by decide +kernel
theorem dX8_goes_61 : decode cX8_goes 61 = .ok (.sipush 520, 3) := by decide +kernel
theorem dX8_goes_64 : decode cX8_goes 64 = .ok (.if_icmp .ge 10, 3) := by decide +kernel
theorem dX8_goes_67 : decode cX8_goes 67 = .ok (.iload_n 3, 1) := by decide +kernel
theorem dX8_goes_68 : decode cX8_goes 68 = .ok (.bipush 13, 2) := by decide +kernel
theorem dX8_goes_70 : decode cX8_goes 70 = .ok (.irem, 1) := by decide +kernel
theorem dX8_goes_71 : decode cX8_goes 71 = .ok (.goto 11, 3) := by decide +kernel
theorem dX8_goes_74 : decode cX8_goes 74 = .ok (.iload_n 3, 1) := by decide +kernel
theorem dX8_goes_75 : decode cX8_goes 75 = .ok (.sipush 520, 3) := by decide +kernel
theorem dX8_goes_78 : decode cX8_goes 78 = .ok (.isub, 1) := by decide +kernel
theorem dX8_goes_79 : decode cX8_goes 79 = .ok (.bipush 13, 2) := by decide +kernel
theorem dX8_goes_81 : decode cX8_goes 81 = .ok (.irem, 1) := by decide +kernel
theorem dX8_goes_82 : decode cX8_goes 82 = .ok (.istore 4, 2) := by decide +kernel
theorem dX8_goes_84 : decode cX8_goes 84 = .ok (.aload_n 0, 1) := by decide +kernel
theorem dX8_goes_85 : decode cX8_goes 85 = .ok (.iload_n 3, 1) := by decide +kernel
theorem dX8_goes_86 : decode cX8_goes 86 = .ok (.invokevirtual 350, 3) := by decide +kernel
theorem dX8_goes_89 : decode cX8_goes 89 = .ok (.ifCond .eq 94, 3) := by decide +kernel
theorem dX8_goes_92 : decode cX8_goes 92 = .ok (.iload 4, 2) := by decide +kernel
theorem dX8_goes_94 : decode cX8_goes 94 = .ok (.bipush 7, 2) := by decide +kernel
theorem dX8_goes_96 : decode cX8_goes 96 = .ok (.if_icmp .lt 87, 3) := by decide +kernel
theorem dX8_goes_99 : decode cX8_goes 99 = .ok (.aload_n 0, 1) := by decide +kernel
theorem dX8_goes_100 : decode cX8_goes 100 = .ok (.getfield 50, 3) := by decide +kernel
theorem dX8_goes_103 : decode cX8_goes 103 = .ok (.aload_n 0, 1) := by decide +kernel
theorem dX8_goes_104 : decode cX8_goes 104 = .ok (.iload_n 3, 1) := by decide +kernel
theorem dX8_goes_105 : decode cX8_goes 105 = .ok (.bipush 13, 2) := by decide +kernel
theorem dX8_goes_107 : decode cX8_goes 107 = .ok (.idiv, 1) := by decide +kernel
theorem dX8_goes_108 : decode cX8_goes 108 = .ok (.invokevirtual 268, 3) := by decide +kernel
theorem dX8_goes_111 : decode cX8_goes 111 = .ok (.iaload, 1) := by decide +kernel
theorem dX8_goes_112 : decode cX8_goes 112 = .ok (.istore 5, 2) := by decide +kernel
theorem dX8_goes_114 : decode cX8_goes 114 = .ok (.iconst 0, 1) := by decide +kernel
theorem dX8_goes_115 : decode cX8_goes 115 = .ok (.istore 6, 2) := by decide +kernel
theorem dX8_goes_117 : decode cX8_goes 117 = .ok (.iload 6, 2) := by decide +kernel
theorem dX8_goes_119 : decode cX8_goes 119 = .ok (.bipush 6, 2) := by decide +kernel
theorem dX8_goes_121 : decode cX8_goes 121 = .ok (.if_icmp .ge 47, 3) := by decide +kernel
theorem dX8_goes_124 : decode cX8_goes 124 = .ok (.aload_n 0, 1) := by decide +kernel
theorem dX8_goes_125 : decode cX8_goes 125 = .ok (.getfield 124, 3) := by decide +kernel
theorem dX8_goes_128 : decode cX8_goes 128 = .ok (.bipush 6, 2) := by decide +kernel
theorem dX8_goes_130 : decode cX8_goes 130 = .ok (.iload 5, 2) := by decide +kernel
theorem dX8_goes_132 : decode cX8_goes 132 = .ok (.imul, 1) := by decide +kernel
theorem dX8_goes_133 : decode cX8_goes 133 = .ok (.iload 4, 2) := by decide +kernel
theorem dX8_goes_135 : decode cX8_goes 135 = .ok (.iadd, 1) := by decide +kernel
theorem dX8_goes_136 : decode cX8_goes 136 = .ok (.bipush 7, 2) := by decide +kernel
theorem dX8_goes_138 : decode cX8_goes 138 = .ok (.isub, 1) := by decide +kernel
theorem dX8_goes_139 : decode cX8_goes 139 = .ok (.iaload, 1) := by decide +kernel
theorem dX8_goes_140 : decode cX8_goes 140 = .ok (.iload 6, 2) := by decide +kernel
theorem dX8_goes_142 : decode cX8_goes 142 = .ok (.ishr, 1) := by decide +kernel
theorem dX8_goes_143 : decode cX8_goes 143 = .ok (.iconst 1, 1) := by decide +kernel
theorem dX8_goes_144 : decode cX8_goes 144 = .ok (.iand, 1) := by decide +kernel
theorem dX8_goes_145 : decode cX8_goes 145 = .ok (.iconst 1, 1) := by decide +kernel
theorem dX8_goes_146 : decode cX8_goes 146 = .ok (.if_icmp .ne 16, 3) := by decide +kernel
theorem dX8_goes_149 : decode cX8_goes 149 = .ok (.aload_n 0, 1) := by decide +kernel
theorem dX8_goes_150 : decode cX8_goes 150 = .ok (.iload_n 3, 1) := by decide +kernel
theorem dX8_goes_151 : decode cX8_goes 151 = .ok (.iload 4, 2) := by decide +kernel
theorem dX8_goes_153 : decode cX8_goes 153 = .ok (.isub, 1) := by decide +kernel
theorem dX8_goes_154 : decode cX8_goes 154 = .ok (.iconst 1, 1) := by decide +kernel
theorem dX8_goes_155 : decode cX8_goes 155 = .ok (.iadd, 1) := by decide +kernel
theorem dX8_goes_156 : decode cX8_goes 156 = .ok (.iload 6, 2) := by decide +kernel
theorem dX8_goes_158 : decode cX8_goes 158 = .ok (.iadd, 1) := by decide +kernel
theorem dX8_goes_159 : decode cX8_goes 159 = .ok (.invokevirtual 347, 3) := by decide +kernel
theorem dX8_goes_162 : decode cX8_goes 162 = .ok (.iinc 6 1, 3) := by decide +kernel
theorem dX8_goes_165 : decode cX8_goes 165 = .ok (.goto (-48), 3) := by decide +kernel
theorem dX8_goes_168 : decode cX8_goes 168 = .ok (.iload_n 2, 1) := by decide +kernel
theorem dX8_goes_169 : decode cX8_goes 169 = .ok (.ifCond .eq 14, 3) := by decide +kernel
theorem dX8_goes_172 : decode cX8_goes 172 = .ok (.aload_n 0, 1) := by decide +kernel
theorem dX8_goes_173 : decode cX8_goes 173 = .ok (.iload 5, 2) := by decide +kernel
theorem dX8_goes_175 : decode cX8_goes 175 = .ok (.iload 4, 2) := by decide +kernel
theorem dX8_goes_177 : decode cX8_goes 177 = .ok (.invokestatic 300, 3) := by decide +kernel
theorem dX8_goes_180 : decode cX8_goes 180 = .ok (.invokevirtual 347, 3) := by decide +kernel
theorem dX8_goes_183 : decode cX8_goes 183 = .ok (.iload_n 1, 1) := by decide +kernel
theorem dX8_goes_184 : decode cX8_goes 184 = .ok (.ifCond .eq 31, 3) := by decide +kernel
theorem dX8_goes_187 : decode cX8_goes 187 = .ok (.iload_n 3, 1) := by decide +kernel
theorem dX8_goes_188 : decode cX8_goes 188 = .ok (.sipush 520, 3) := by decide +kernel
theorem dX8_goes_191 : decode cX8_goes 191 = .ok (.if_icmp .lt 24, 3) := by decide +kernel
theorem dX8_goes_194 : decode cX8_goes 194 = .ok (.iload 4, 2) := by decide +kernel
theorem dX8_goes_196 : decode cX8_goes 196 = .ok (.bipush 7, 2) := by decide +kernel
theorem dX8_goes_198 : decode cX8_goes 198 = .ok (.if_icmp .ge 17, 3) := by decide +kernel
theorem dX8_goes_201 : decode cX8_goes 201 = .ok (.aload_n 0, 1) := by decide +kernel
theorem dX8_goes_202 : decode cX8_goes 202 = .ok (.iload_n 3, 1) := by decide +kernel
theorem dX8_goes_203 : decode cX8_goes 203 = .ok (.sipush 520, 3) := by decide +kernel
theorem dX8_goes_206 : decode cX8_goes 206 = .ok (.isub, 1) := by decide +kernel
theorem dX8_goes_207 : decode cX8_goes 207 = .ok (.bipush 13, 2) := by decide +kernel
theorem dX8_goes_209 : decode cX8_goes 209 = .ok (.idiv, 1) := by decide +kernel
theorem dX8_goes_210 : decode cX8_goes 210 = .ok (.iload 4, 2) := by decide +kernel
theorem dX8_goes_212 : decode cX8_goes 212 = .ok (.invokevirtual 353, 3) := by decide +kernel
theorem dX8_goes_215 : decode cX8_goes 215 = .ok (.goto (-215), 3) := by decide +kernel
theorem dX8_goes_218 : decode cX8_goes 218 = .ok (.return_, 1) := by decide +kernel
set_option maxHeartbeats 4000000 in
set_option maxRecDepth 100000 in
theorem s_X8_goes (l : Launch) (d : Nat) {P : PP} {h : HP} (hv : Iv P h) (a2 : Int32) (a2l : 0 ≤ a2.toInt) (a2u : a2.toInt ≤ 1) (a3 : Int32) (a3l : 0 ≤ a3.toInt) (a3u : a3.toInt ≤ 1) (hw : WT h.2.1 ≤ ct h.2.1 109) (ckf : CKF h.2.1) : Mt l yX8_goes cX8_goes 7 none (d + 4) [.ref 70, .int a2, .int a3] h 0 0 (fun r h' => r = none ∧ Iv P h' ∧ (PH h.2.1 h'.2.1) ∧ (WT h'.2.1 ≤ 0)) := by
  refine Mt_iv hv (by decide) (Nat.le_of_ble_eq_true rfl) ?_
  show Go l RX8 cX8_goes 7 (g_rm (d + 4) 0 0) "goes" none 117 0 0 (fun _ _ => True) (fun r h' => r = none ∧ Iv P h' ∧ (PH h.2.1 h'.2.1) ∧ (WT h'.2.1 ≤ 0)) 0 0 [(0, .ref 70), (1, .int a2), (2, .int a3)] [] h
  obtain ⟨S, hS⟩ : ∃ S : Int, S = (h.2.1 70 6).toInt := ⟨_, rfl⟩
  have S0 : 0 ≤ S := by rw [hS]; exact (hv.2.1 70 6).1
  have S1 : S ≤ 1 := by rw [hS]; exact (hv.2.1 70 6).2
  have key : ∀ n : Nat, (∀ (l1 : Int32) (l2 : Int32) (hx : HP), Iv P hx → 0 ≤ l1.toInt → l1.toInt ≤ 1 → 0 ≤ l2.toInt → l2.toInt ≤ 1 → (PH h.2.1 hx.2.1) → ((0 ≤ ct hx.2.1 109 ∧ ct hx.2.1 109 ≤ 585) ∧ 0 ≤ WT hx.2.1 ∧ WT hx.2.1 ≤ 585) → (1200 * (2 * (585 - ct hx.2.1 109) + WT hx.2.1) : Int) < n → Go l RX8 cX8_goes 7 (g_rm (d + 4) 0 0) "goes" none 117 0 0 (fun _ _ => True) (fun r h' => r = none ∧ Iv P h' ∧ (PH h.2.1 h'.2.1) ∧ (WT h'.2.1 ≤ 0)) 0 0 [(0, .ref 70), (1, .int l1), (2, .int l2)] [] hx) ∧ (∀ (l1 : Int32) (l2 : Int32) (l3 : Int32) (l4 : Int32) (hx : HP), Iv P hx → 0 ≤ l1.toInt → l1.toInt ≤ 1 → 0 ≤ l2.toInt → l2.toInt ≤ 1 → 0 ≤ l3.toInt → l3.toInt ≤ 584 → 0 ≤ l4.toInt → l4.toInt ≤ 585 → (PH h.2.1 hx.2.1) → ((0 ≤ ct hx.2.1 109 ∧ ct hx.2.1 109 ≤ 585) ∧ 0 ≤ WT hx.2.1 ∧ WT hx.2.1 ≤ 585) → (1200 * (2 * (585 - ct hx.2.1 109) + WT hx.2.1) + 100 + (585 - l4.toInt) : Int) < n → Go l RX8 cX8_goes 7 (g_rm (d + 4) 0 0) "goes" none 117 0 0 (fun _ _ => True) (fun r h' => r = none ∧ Iv P h' ∧ (PH h.2.1 h'.2.1) ∧ (WT h'.2.1 ≤ 0)) 0 30 [(0, .ref 70), (1, .int l1), (2, .int l2), (3, .int l3), (4, .int l4)] [] hx) ∧ (∀ (l1 : Int32) (l2 : Int32) (l3 : Int32) (l4 : Int32) (l5 : Int32) (l6 : Int32) (hx : HP), Iv P hx → 0 ≤ l1.toInt → l1.toInt ≤ 1 → 0 ≤ l2.toInt → l2.toInt ≤ 1 → 0 ≤ l3.toInt → l3.toInt ≤ 584 → 7 ≤ l4.toInt → l4.toInt ≤ 12 → 0 ≤ l5.toInt → l5.toInt ≤ 4 → 0 ≤ l6.toInt → l6.toInt ≤ 6 → (PH h.2.1 hx.2.1) → ((0 ≤ ct hx.2.1 109 ∧ ct hx.2.1 109 ≤ 585) ∧ 0 ≤ WT hx.2.1 ∧ WT hx.2.1 ≤ 585) → (l4.toInt = l3.toInt % 13) → (l3.toInt < 520) → (7 ≤ l4.toInt) → (1200 * (2 * (585 - ct hx.2.1 109) + WT hx.2.1) + 50 + (6 - l6.toInt) : Int) < n → Go l RX8 cX8_goes 7 (g_rm (d + 4) 0 0) "goes" none 117 0 0 (fun _ _ => True) (fun r h' => r = none ∧ Iv P h' ∧ (PH h.2.1 h'.2.1) ∧ (WT h'.2.1 ≤ 0)) 0 117 [(0, .ref 70), (1, .int l1), (2, .int l2), (3, .int l3), (4, .int l4), (5, .int l5), (6, .int l6)] [] hx) ∧ (∀ (l1 : Int32) (l2 : Int32) (l3 : Int32) (l4 : Int32) (s0 : Int32) (hx : HP), Iv P hx → 0 ≤ l1.toInt → l1.toInt ≤ 1 → 0 ≤ l2.toInt → l2.toInt ≤ 1 → 0 ≤ l3.toInt → l3.toInt ≤ 584 → 0 ≤ l4.toInt → l4.toInt ≤ 12 → 0 ≤ s0.toInt → s0.toInt ≤ 1 → (PH h.2.1 hx.2.1) → ((0 ≤ ct hx.2.1 109 ∧ ct hx.2.1 109 ≤ 585) ∧ 0 ≤ WT hx.2.1 ∧ WT hx.2.1 ≤ 585) → (1200 * (2 * (585 - ct hx.2.1 109) + WT hx.2.1) + 10 : Int) < n → Go l RX8 cX8_goes 7 (g_rm (d + 4) 0 0) "goes" none 117 0 0 (fun _ _ => True) (fun r h' => r = none ∧ Iv P h' ∧ (PH h.2.1 h'.2.1) ∧ (WT h'.2.1 ≤ 0)) 0 184 [(0, .ref 70), (1, .int l1), (2, .int l2), (3, .int l3), (4, .int l4)] [.int s0] hx) := by
    intro n
    induction n with
    | zero => exact ⟨(by intros; omega), (by intros; omega), (by intros; omega), (by intros; omega)⟩
    | succ n ih =>
      refine ⟨?_, ?_, ?_, ?_⟩
      ·
        intro l1 l2 hx hvx l1l l1u l2l l2u x0 x1 hm
        obtain ⟨u70_47, u70_47w⟩ : ∃ v : Int32, v = hx.2.1 70 47 := ⟨_, rfl⟩
        have u70_47e : (hx.2.1 70 47).toInt = u70_47.toInt := by rw [u70_47w]
        have u70_47l : 0 ≤ u70_47.toInt := by rw [u70_47w]; exact (hvx.2.1 70 47).1
        have u70_47u : u70_47.toInt ≤ 585 := by rw [u70_47w]; exact (hvx.2.1 70 47).2
        have x0a := x0.1
        have x0b := x0.2.1
        have hwt : (hx.2.1 70 47).toInt = WT hx.2.1 := rfl
        refine go_aload_n (pc := 0) rfl dX8_goes_0 ?_
        refine gi_get (pc := 1) (lo := 0) (hi := 585) hvx fL_X8_344 rfl (Nat.le_of_ble_eq_true rfl) rfl rfl dX8_goes_1 (fun v1 v1l v1u v1w => ?_)
        have v1r : u70_47 = hx.2.1 70 47 := u70_47w
        have v1q : TI v1 u70_47.toInt := by rw [v1w.trans v1r.symm]; exact (ti_rfl u70_47)
        refine gf_if_le (pc := 4) (tgt := 218) v1q (by decide) dX8_goes_4 (fun q2 => ?_) (fun q2 => ?_)
        ·
          exact gi_vret (pc := 218) ⟨rfl, hvx, x0, (by omega)⟩ hvx dX8_goes_218
        ·
          refine go_aload_n (pc := 7) rfl dX8_goes_7 ?_
          refine go_dup (pc := 8) rfl dX8_goes_8 ?_
          refine gi_get (pc := 9) (lo := 0) (hi := 585) hvx fL_X8_344 rfl (Nat.le_of_ble_eq_true rfl) rfl rfl dX8_goes_9 (fun v3 v3l v3u v3w => ?_)
          have v3r : u70_47 = hx.2.1 70 47 := u70_47w
          have v3q : TI v3 u70_47.toInt := by rw [v3w.trans v3r.symm]; exact (ti_rfl u70_47)
          refine go_iconst (pc := 12) (v := 1) (by decide) dX8_goes_12 ?_
          refine gf_isub (pc := 13) v3q (ti_c (v := 1) (a := 1) (by decide)) (by omega) (by omega) dX8_goes_13 (fun v4 e5 => ?_)
          refine gi_put (pc := 14) (lo := 0) (hi := 585) hvx e5 (fP_X8_344 _) rfl (Nat.le_of_ble_eq_true rfl) rfl rfl (by omega) (by omega) rfl rfl (by decide) (by decide) (by decide) (by decide) dX8_goes_14 (fun h6 hv6 hv6e => ?_)
          have pop := PH.pop (F := hx.2.1) (z := v4) x0.1 (by rw [show (v4 : Int32).toInt = (u70_47.toInt - 1) from e5]; omega)
          have eh : h6.2.1 = (fun p q => if p = 70 ∧ q = 47 then v4 else hx.2.1 p q) := by rw [hv6e]; rfl
          rw [← eh] at pop
          have pop1 := pop.2.1
          have pop2 := pop.2.2
          have php : PH h.2.1 h6.2.1 := x0.trans pop.1
          refine go_aload_n (pc := 17) rfl dX8_goes_17 ?_
          refine gi_getF (pc := 18) (q := 110) hv6 fL_X8_130 rfl (Nat.le_of_ble_eq_true rfl) rfl (hv6.rf (by decide)) dX8_goes_18 ?_
          refine go_aload_n (pc := 21) rfl dX8_goes_21 ?_
          refine gi_get (pc := 22) (lo := 0) (hi := 585) hv6 fL_X8_344 rfl (Nat.le_of_ble_eq_true rfl) rfl rfl dX8_goes_22 (fun v7 v7l v7u v7w => ?_)
          have v7r : v4 = h6.2.1 70 47 := (show v4 = h6.2.1 70 47 from by rw [hv6e]; exact g_iS.symm)
          have v7q : TI v7 ((u70_47.toInt - 1)) := by rw [v7w.trans v7r.symm]; exact e5
          refine gi_iald (pc := 25) (lo := 0) (hi := 584) (len := 585) hv6 v7q rfl (by omega) (by omega) (fun _ => rfl) dX8_goes_25 (fun v8 v8l v8u v8w => ?_)
          refine go_istore_n (pc := 26) (Nat.le_of_ble_eq_true rfl) dX8_goes_26 (go_lv (lv2 := [(0, .ref 70), (1, .int l1), (2, .int l2), (3, .int v8)]) rfl ?_)
          refine go_iconst (pc := 27) (v := 0) (by decide) dX8_goes_27 ?_
          refine go_istore (pc := 28) (Nat.le_of_ble_eq_true rfl) dX8_goes_28 (go_lv (lv2 := [(0, .ref 70), (1, .int l1), (2, .int l2), (3, .int v8), (4, .int 0)]) rfl ?_)
          have z9 : (0 : Int32).toInt = 0 := (ti_c (v := 0) (a := 0) (by decide))
          exact go_lv rfl (ih.2.1 l1 l2 v8 0 h6 hv6 (by omega) (by omega) (by omega) (by omega) (by omega) (by omega) (by omega) (by omega) php ⟨⟨ct_lo _ _, ct_hi _ _⟩, (hv6.2.1 70 47)⟩ (by omega))
      ·
        intro l1 l2 l3 l4 hx hvx l1l l1u l2l l2u l3l l3u l4l l4u x0 x1 hm
        obtain ⟨u70_47, u70_47w⟩ : ∃ v : Int32, v = hx.2.1 70 47 := ⟨_, rfl⟩
        have u70_47e : (hx.2.1 70 47).toInt = u70_47.toInt := by rw [u70_47w]
        have u70_47l : 0 ≤ u70_47.toInt := by rw [u70_47w]; exact (hvx.2.1 70 47).1
        have u70_47u : u70_47.toInt ≤ 585 := by rw [u70_47w]; exact (hvx.2.1 70 47).2
        have x0a := x0.1
        have x0b := x0.2.1
        refine go_iload (pc := 30) rfl dX8_goes_30 ?_
        refine go_sipush (pc := 32) (v := 585) (by decide) dX8_goes_32 ?_
        refine gf_icmp_ge (pc := 35) (tgt := 60) (ti_rfl l4) (ti_c (v := 585) (a := 585) (by decide)) (by decide) dX8_goes_35 (fun q10 => ?_) (fun q10 => ?_)
        ·
          refine go_iload_n (pc := 60) rfl dX8_goes_60 ?_
          refine go_sipush (pc := 61) (v := 520) (by decide) dX8_goes_61 ?_
          refine gf_icmp_ge (pc := 64) (tgt := 74) (ti_rfl l3) (ti_c (v := 520) (a := 520) (by decide)) (by decide) dX8_goes_64 (fun q11 => ?_) (fun q11 => ?_)
          ·
            refine go_iload_n (pc := 74) rfl dX8_goes_74 ?_
            refine go_sipush (pc := 75) (v := 520) (by decide) dX8_goes_75 ?_
            refine gf_isub (pc := 78) (ti_rfl l3) (ti_c (v := 520) (a := 520) (by decide)) (by omega) (by omega) dX8_goes_78 (fun v12 e13 => ?_)
            refine go_bipush (pc := 79) (v := 13) (by decide) dX8_goes_79 ?_
            refine gf_irem (pc := 81) e13 (ti_c (v := 13) (a := 13) (by decide)) (by omega) (by omega) dX8_goes_81 (fun v14 e15 => ?_)
            have z16 : (v14 : Int32).toInt = ((l3.toInt - 520) % 13) := e15
            refine go_istore (pc := 82) (Nat.le_of_ble_eq_true rfl) dX8_goes_82 (go_lv (lv2 := [(0, .ref 70), (1, .int l1), (2, .int l2), (3, .int l3), (4, .int v14)]) rfl ?_)
            refine go_aload_n (pc := 84) rfl dX8_goes_84 ?_
            refine go_iload_n (pc := 85) rfl dX8_goes_85 ?_
            have sM17 : (hx.2.1 70 6).toInt = S := by rw [hvx.fy (j := 6) (by omega), ← hv.fy (j := 6) (by omega)]; exact hS.symm
            refine go_invV (pc := 86) (sl := 0) (s_X8_isCall_x l (d + 0) hvx l3 (by rw [show (l3 : Int32).toInt = l3.toInt from (ti_rfl l3)]; omega) (by rw [show (l3 : Int32).toInt = l3.toInt from (ti_rfl l3)]; omega)) mL_X8_350 iM_X8_isCall sM_X8_isCall (hvx.sh rfl) rfl rfl rfl (Nat.le_of_ble_eq_true rfl) (show d + 0 + 3 + 1 ≤ d + 4 by omega) (show 8 + (2 + 11) + 40 * (d + 0 + 3) ≤ 40 * (d + 4) by omega) (g_c0 hvx.ln) (Nat.le_of_ble_eq_true rfl) dX8_goes_86 ?_
            intro r h18 hq _
            obtain ⟨v20, rfl, v20l, v20u, rfl, f19⟩ := hq
            rw [sM17] at f19
            have icf := f19
            rw [VE.v (VE.of hv hvx) (c := 75) (by omega) (by omega), VE.v (VE.of hv hvx) (c := 77) (by omega) (by omega), VE.v (VE.of hv hvx) (c := 93) (by omega) (by omega)] at icf
            refine gf_if_eq (pc := 89) (tgt := 183) (ti_rfl v20) (by decide) dX8_goes_89 (fun q21 => ?_) (fun q21 => ?_)
            ·
              refine go_iload_n (pc := 183) rfl dX8_goes_183 ?_
              have z22 : (v14 : Int32).toInt = ((l3.toInt - 520) % 13) := e15
              exact go_lv rfl (ih.2.2.2 l1 l2 l3 v14 l1 hx hvx (by omega) (by omega) (by omega) (by omega) (by omega) (by omega) (by omega) (by omega) (by omega) (by omega) x0 ⟨⟨ct_lo _ _, ct_hi _ _⟩, (hvx.2.1 70 47)⟩ (by omega))
            ·
              refine go_iload (pc := 92) rfl dX8_goes_92 ?_
              refine go_bipush (pc := 94) (v := 7) (by decide) dX8_goes_94 ?_
              refine gf_icmp_lt (pc := 96) (tgt := 183) e15 (ti_c (v := 7) (a := 7) (by decide)) (by decide) dX8_goes_96 (fun q23 => ?_) (fun q23 => ?_)
              ·
                refine go_iload_n (pc := 183) rfl dX8_goes_183 ?_
                have z24 : (v14 : Int32).toInt = ((l3.toInt - 520) % 13) := e15
                exact go_lv rfl (ih.2.2.2 l1 l2 l3 v14 l1 hx hvx (by omega) (by omega) (by omega) (by omega) (by omega) (by omega) (by omega) (by omega) (by omega) (by omega) x0 ⟨⟨ct_lo _ _, ct_hi _ _⟩, (hvx.2.1 70 47)⟩ (by omega))
              ·
                refine go_aload_n (pc := 99) rfl dX8_goes_99 ?_
                refine gi_getF (pc := 100) (q := 84) hvx fL_X8_50 rfl (Nat.le_of_ble_eq_true rfl) rfl (hvx.rf (by decide)) dX8_goes_100 ?_
                refine go_aload_n (pc := 103) rfl dX8_goes_103 ?_
                refine go_iload_n (pc := 104) rfl dX8_goes_104 ?_
                refine go_bipush (pc := 105) (v := 13) (by decide) dX8_goes_105 ?_
                refine gf_idiv (pc := 107) (ti_rfl l3) (ti_c (v := 13) (a := 13) (by decide)) (by omega) (by omega) dX8_goes_107 (fun v25 e26 => ?_)
                refine go_invV (pc := 108) (sl := 0) (s_X8_item l (d + 2) hvx v25 (by rw [show (v25 : Int32).toInt = (l3.toInt / 13) from e26]; omega) (by rw [show (v25 : Int32).toInt = (l3.toInt / 13) from e26]; omega)) mL_X8_268 iM_X8_item sM_X8_item (hvx.sh rfl) rfl rfl rfl (Nat.le_of_ble_eq_true rfl) (show d + 2 + 1 + 1 ≤ d + 4 by omega) (show 8 + (2 + 11) + 40 * (d + 2 + 1) ≤ 40 * (d + 4) by omega) (g_c0 hvx.ln) (Nat.le_of_ble_eq_true rfl) dX8_goes_108 ?_
                intro r h27 hq _
                obtain ⟨v29, rfl, v29l, v29u, rfl, f28⟩ := hq
                have v29K : v29.toInt = V h.2.1 93 (40 * S + (l3.toInt / 13)) := by rw [f28]; unfold g_it; rw [show (v25 : Int32).toInt = (l3.toInt / 13) from e26, hvx.fy (j := 6) (by omega), ← hv.fy (j := 6) (by omega), ← hS, hvx.fz (c := 93) (by omega) (by omega), ← hv.fz (c := 93) (by omega) (by omega)]; rfl
                try rw [show (v25 : Int32).toInt = (l3.toInt / 13) from e26] at f28
                refine gi_iald (pc := 111) (lo := -2) (hi := 4) (len := 260) hvx (ti_rfl v29) rfl (by omega) (by omega) (fun _ => rfl) dX8_goes_111 (fun v30 v30l v30u v30w => ?_)
                have v30V : v30.toInt = V h.2.1 84 v29.toInt := by rw [v30w, hvx.fz (c := 84) (by omega) (by omega), ← hv.fz (c := 84) (by omega) (by omega)]; rfl
                have ic := icf.1 (by omega)
                have kk : 0 ≤ v30.toInt := by
                  rw [v30w]
                  refine (KS.ckf x0.2.2.2 ckf) _ ?_
                  have e : V h.2.1 77 v29.toInt = 1 := by rw [v29K]; exact ic.2.2
                  rw [← x0.2.2.2.ve.v (c := 77) (by omega) (by omega)] at e
                  exact e
                refine go_istore (pc := 112) (Nat.le_of_ble_eq_true rfl) dX8_goes_112 (go_lv (lv2 := [(0, .ref 70), (1, .int l1), (2, .int l2), (3, .int l3), (4, .int v14), (5, .int v30)]) rfl ?_)
                refine go_iconst (pc := 114) (v := 0) (by decide) dX8_goes_114 ?_
                refine go_istore (pc := 115) (Nat.le_of_ble_eq_true rfl) dX8_goes_115 (go_lv (lv2 := [(0, .ref 70), (1, .int l1), (2, .int l2), (3, .int l3), (4, .int v14), (5, .int v30), (6, .int 0)]) rfl ?_)
                have z31 : (v14 : Int32).toInt = ((l3.toInt - 520) % 13) := e15
                have z32 : (0 : Int32).toInt = 0 := (ti_c (v := 0) (a := 0) (by decide))
                exact go_lv rfl (ih.2.2.1 l1 l2 l3 v14 v30 0 hx hvx (by omega) (by omega) (by omega) (by omega) (by omega) (by omega) (by omega) (by omega) (by omega) (by omega) (by omega) (by omega) x0 ⟨⟨ct_lo _ _, ct_hi _ _⟩, (hvx.2.1 70 47)⟩ (by omega) (by omega) (by omega) (by omega))
          ·
            refine go_iload_n (pc := 67) rfl dX8_goes_67 ?_
            refine go_bipush (pc := 68) (v := 13) (by decide) dX8_goes_68 ?_
            refine gf_irem (pc := 70) (ti_rfl l3) (ti_c (v := 13) (a := 13) (by decide)) (by omega) (by omega) dX8_goes_70 (fun v33 e34 => ?_)
            refine go_goto (pc := 71) (tgt := 82) (by decide) dX8_goes_71 ?_
            have z35 : (v33 : Int32).toInt = (l3.toInt % 13) := e34
            refine go_istore (pc := 82) (Nat.le_of_ble_eq_true rfl) dX8_goes_82 (go_lv (lv2 := [(0, .ref 70), (1, .int l1), (2, .int l2), (3, .int l3), (4, .int v33)]) rfl ?_)
            refine go_aload_n (pc := 84) rfl dX8_goes_84 ?_
            refine go_iload_n (pc := 85) rfl dX8_goes_85 ?_
            have sM36 : (hx.2.1 70 6).toInt = S := by rw [hvx.fy (j := 6) (by omega), ← hv.fy (j := 6) (by omega)]; exact hS.symm
            refine go_invV (pc := 86) (sl := 0) (s_X8_isCall_x l (d + 0) hvx l3 (by rw [show (l3 : Int32).toInt = l3.toInt from (ti_rfl l3)]; omega) (by rw [show (l3 : Int32).toInt = l3.toInt from (ti_rfl l3)]; omega)) mL_X8_350 iM_X8_isCall sM_X8_isCall (hvx.sh rfl) rfl rfl rfl (Nat.le_of_ble_eq_true rfl) (show d + 0 + 3 + 1 ≤ d + 4 by omega) (show 8 + (2 + 11) + 40 * (d + 0 + 3) ≤ 40 * (d + 4) by omega) (g_c0 hvx.ln) (Nat.le_of_ble_eq_true rfl) dX8_goes_86 ?_
            intro r h37 hq _
            obtain ⟨v39, rfl, v39l, v39u, rfl, f38⟩ := hq
            rw [sM36] at f38
            have icf := f38
            rw [VE.v (VE.of hv hvx) (c := 75) (by omega) (by omega), VE.v (VE.of hv hvx) (c := 77) (by omega) (by omega), VE.v (VE.of hv hvx) (c := 93) (by omega) (by omega)] at icf
            refine gf_if_eq (pc := 89) (tgt := 183) (ti_rfl v39) (by decide) dX8_goes_89 (fun q40 => ?_) (fun q40 => ?_)
            ·
              refine go_iload_n (pc := 183) rfl dX8_goes_183 ?_
              have z41 : (v33 : Int32).toInt = (l3.toInt % 13) := e34
              exact go_lv rfl (ih.2.2.2 l1 l2 l3 v33 l1 hx hvx (by omega) (by omega) (by omega) (by omega) (by omega) (by omega) (by omega) (by omega) (by omega) (by omega) x0 ⟨⟨ct_lo _ _, ct_hi _ _⟩, (hvx.2.1 70 47)⟩ (by omega))
            ·
              refine go_iload (pc := 92) rfl dX8_goes_92 ?_
              refine go_bipush (pc := 94) (v := 7) (by decide) dX8_goes_94 ?_
              refine gf_icmp_lt (pc := 96) (tgt := 183) e34 (ti_c (v := 7) (a := 7) (by decide)) (by decide) dX8_goes_96 (fun q42 => ?_) (fun q42 => ?_)
              ·
                refine go_iload_n (pc := 183) rfl dX8_goes_183 ?_
                have z43 : (v33 : Int32).toInt = (l3.toInt % 13) := e34
                exact go_lv rfl (ih.2.2.2 l1 l2 l3 v33 l1 hx hvx (by omega) (by omega) (by omega) (by omega) (by omega) (by omega) (by omega) (by omega) (by omega) (by omega) x0 ⟨⟨ct_lo _ _, ct_hi _ _⟩, (hvx.2.1 70 47)⟩ (by omega))
              ·
                refine go_aload_n (pc := 99) rfl dX8_goes_99 ?_
                refine gi_getF (pc := 100) (q := 84) hvx fL_X8_50 rfl (Nat.le_of_ble_eq_true rfl) rfl (hvx.rf (by decide)) dX8_goes_100 ?_
                refine go_aload_n (pc := 103) rfl dX8_goes_103 ?_
                refine go_iload_n (pc := 104) rfl dX8_goes_104 ?_
                refine go_bipush (pc := 105) (v := 13) (by decide) dX8_goes_105 ?_
                refine gf_idiv (pc := 107) (ti_rfl l3) (ti_c (v := 13) (a := 13) (by decide)) (by omega) (by omega) dX8_goes_107 (fun v44 e45 => ?_)
                refine go_invV (pc := 108) (sl := 0) (s_X8_item l (d + 2) hvx v44 (by rw [show (v44 : Int32).toInt = (l3.toInt / 13) from e45]; omega) (by rw [show (v44 : Int32).toInt = (l3.toInt / 13) from e45]; omega)) mL_X8_268 iM_X8_item sM_X8_item (hvx.sh rfl) rfl rfl rfl (Nat.le_of_ble_eq_true rfl) (show d + 2 + 1 + 1 ≤ d + 4 by omega) (show 8 + (2 + 11) + 40 * (d + 2 + 1) ≤ 40 * (d + 4) by omega) (g_c0 hvx.ln) (Nat.le_of_ble_eq_true rfl) dX8_goes_108 ?_
                intro r h46 hq _
                obtain ⟨v48, rfl, v48l, v48u, rfl, f47⟩ := hq
                have v48K : v48.toInt = V h.2.1 93 (40 * S + (l3.toInt / 13)) := by rw [f47]; unfold g_it; rw [show (v44 : Int32).toInt = (l3.toInt / 13) from e45, hvx.fy (j := 6) (by omega), ← hv.fy (j := 6) (by omega), ← hS, hvx.fz (c := 93) (by omega) (by omega), ← hv.fz (c := 93) (by omega) (by omega)]; rfl
                try rw [show (v44 : Int32).toInt = (l3.toInt / 13) from e45] at f47
                refine gi_iald (pc := 111) (lo := -2) (hi := 4) (len := 260) hvx (ti_rfl v48) rfl (by omega) (by omega) (fun _ => rfl) dX8_goes_111 (fun v49 v49l v49u v49w => ?_)
                have v49V : v49.toInt = V h.2.1 84 v48.toInt := by rw [v49w, hvx.fz (c := 84) (by omega) (by omega), ← hv.fz (c := 84) (by omega) (by omega)]; rfl
                have ic := icf.1 (by omega)
                have kk : 0 ≤ v49.toInt := by
                  rw [v49w]
                  refine (KS.ckf x0.2.2.2 ckf) _ ?_
                  have e : V h.2.1 77 v48.toInt = 1 := by rw [v48K]; exact ic.2.2
                  rw [← x0.2.2.2.ve.v (c := 77) (by omega) (by omega)] at e
                  exact e
                refine go_istore (pc := 112) (Nat.le_of_ble_eq_true rfl) dX8_goes_112 (go_lv (lv2 := [(0, .ref 70), (1, .int l1), (2, .int l2), (3, .int l3), (4, .int v33), (5, .int v49)]) rfl ?_)
                refine go_iconst (pc := 114) (v := 0) (by decide) dX8_goes_114 ?_
                refine go_istore (pc := 115) (Nat.le_of_ble_eq_true rfl) dX8_goes_115 (go_lv (lv2 := [(0, .ref 70), (1, .int l1), (2, .int l2), (3, .int l3), (4, .int v33), (5, .int v49), (6, .int 0)]) rfl ?_)
                have z50 : (v33 : Int32).toInt = (l3.toInt % 13) := e34
                have z51 : (0 : Int32).toInt = 0 := (ti_c (v := 0) (a := 0) (by decide))
                exact go_lv rfl (ih.2.2.1 l1 l2 l3 v33 v49 0 hx hvx (by omega) (by omega) (by omega) (by omega) (by omega) (by omega) (by omega) (by omega) (by omega) (by omega) (by omega) (by omega) x0 ⟨⟨ct_lo _ _, ct_hi _ _⟩, (hvx.2.1 70 47)⟩ (by omega) (by omega) (by omega) (by omega))
        ·
          refine go_aload_n (pc := 38) rfl dX8_goes_38 ?_
          refine go_iload_n (pc := 39) rfl dX8_goes_39 ?_
          refine go_iload (pc := 40) rfl dX8_goes_40 ?_
          refine go_invV (pc := 42) (sl := 0) (s_X8_isHung l (d + 2) hvx l3 (by rw [show (l3 : Int32).toInt = l3.toInt from (ti_rfl l3)]; omega) (by rw [show (l3 : Int32).toInt = l3.toInt from (ti_rfl l3)]; omega) l4 (by rw [show (l4 : Int32).toInt = l4.toInt from (ti_rfl l4)]; omega) (by rw [show (l4 : Int32).toInt = l4.toInt from (ti_rfl l4)]; omega)) mL_X8_326 iM_X8_isHung sM_X8_isHung (hvx.sh rfl) rfl rfl rfl (Nat.le_of_ble_eq_true rfl) (show d + 2 + 1 + 1 ≤ d + 4 by omega) (show 8 + (3 + 11) + 40 * (d + 2 + 1) ≤ 40 * (d + 4) by omega) (g_c0 hvx.ln) (Nat.le_of_ble_eq_true rfl) dX8_goes_42 ?_
          intro r h52 hq _
          obtain ⟨v53, rfl, v53l, v53u, rfl⟩ := hq
          refine gf_if_eq (pc := 45) (tgt := 54) (ti_rfl v53) (by decide) dX8_goes_45 (fun q54 => ?_) (fun q54 => ?_)
          ·
            refine gf_iinc (pc := 54) (Nat.le_of_ble_eq_true rfl) rfl (ti_rfl l4) (ti_c (by decide)) (by omega) (by omega) dX8_goes_54 (fun v55 e56 => ?_)
            refine go_lv (lv2 := [(0, .ref 70), (1, .int l1), (2, .int l2), (3, .int l3), (4, .int v55)]) rfl ?_
            refine go_goto (pc := 57) (tgt := 30) (by decide) dX8_goes_57 ?_
            have z57 : (v55 : Int32).toInt = (l4.toInt + 1) := e56
            exact go_lv rfl (ih.2.1 l1 l2 l3 v55 hx hvx (by omega) (by omega) (by omega) (by omega) (by omega) (by omega) (by omega) (by omega) x0 ⟨⟨ct_lo _ _, ct_hi _ _⟩, (hvx.2.1 70 47)⟩ (by omega))
          ·
            refine go_aload_n (pc := 48) rfl dX8_goes_48 ?_
            refine go_iload (pc := 49) rfl dX8_goes_49 ?_
            refine go_invV (pc := 51) (sl := 0) (s_X8_reach l (d + 1) hvx l4 (by rw [show (l4 : Int32).toInt = l4.toInt from (ti_rfl l4)]; omega) (by rw [show (l4 : Int32).toInt = l4.toInt from (ti_rfl l4)]; omega) x0.1) mL_X8_347 iM_X8_reach sM_X8_reach (hvx.sh rfl) rfl rfl rfl (Nat.le_of_ble_eq_true rfl) (show d + 1 + 2 + 1 ≤ d + 4 by omega) (show 8 + (2 + 11) + 40 * (d + 1 + 2) ≤ 40 * (d + 4) by omega) (g_c0 hvx.ln) (Nat.le_of_ble_eq_true rfl) dX8_goes_51 ?_
            intro r h58 hq _
            obtain ⟨rfl, hv58, f59⟩ := hq
            have ph60s := (RC.ph f59 (by omega) (by omega) x0.1)
            have ph60c := ph60s.2.1
            have ph60 : PH h.2.1 h58.2.1 := x0.trans ph60s
            have ph60a := ph60.1
            have ph60b := ph60.2.1
            refine gf_iinc (pc := 54) (Nat.le_of_ble_eq_true rfl) rfl (ti_rfl l4) (ti_c (by decide)) (by omega) (by omega) dX8_goes_54 (fun v61 e62 => ?_)
            refine go_lv (lv2 := [(0, .ref 70), (1, .int l1), (2, .int l2), (3, .int l3), (4, .int v61)]) rfl ?_
            refine go_goto (pc := 57) (tgt := 30) (by decide) dX8_goes_57 ?_
            have z63 : (v61 : Int32).toInt = (l4.toInt + 1) := e62
            exact go_lv rfl (ih.2.1 l1 l2 l3 v61 h58 hv58 (by omega) (by omega) (by omega) (by omega) (by omega) (by omega) (by omega) (by omega) ph60 ⟨⟨ct_lo _ _, ct_hi _ _⟩, (hv58.2.1 70 47)⟩ (by omega))
      ·
        intro l1 l2 l3 l4 l5 l6 hx hvx l1l l1u l2l l2u l3l l3u l4l l4u l5l l5u l6l l6u x0 x1 x2 x3 x4 hm
        obtain ⟨u70_47, u70_47w⟩ : ∃ v : Int32, v = hx.2.1 70 47 := ⟨_, rfl⟩
        have u70_47e : (hx.2.1 70 47).toInt = u70_47.toInt := by rw [u70_47w]
        have u70_47l : 0 ≤ u70_47.toInt := by rw [u70_47w]; exact (hvx.2.1 70 47).1
        have u70_47u : u70_47.toInt ≤ 585 := by rw [u70_47w]; exact (hvx.2.1 70 47).2
        have x0a := x0.1
        have x0b := x0.2.1
        refine go_iload (pc := 117) rfl dX8_goes_117 ?_
        refine go_bipush (pc := 119) (v := 6) (by decide) dX8_goes_119 ?_
        refine gf_icmp_ge (pc := 121) (tgt := 168) (ti_rfl l6) (ti_c (v := 6) (a := 6) (by decide)) (by decide) dX8_goes_121 (fun q64 => ?_) (fun q64 => ?_)
        ·
          refine go_iload_n (pc := 168) rfl dX8_goes_168 ?_
          refine gf_if_eq (pc := 169) (tgt := 183) (ti_rfl l2) (by decide) dX8_goes_169 (fun q65 => ?_) (fun q65 => ?_)
          ·
            refine go_iload_n (pc := 183) rfl dX8_goes_183 ?_
            exact go_lv rfl (ih.2.2.2 l1 l2 l3 l4 l1 hx hvx (by omega) (by omega) (by omega) (by omega) (by omega) (by omega) (by omega) (by omega) (by omega) (by omega) x0 ⟨⟨ct_lo _ _, ct_hi _ _⟩, (hvx.2.1 70 47)⟩ (by omega))
          ·
            refine go_aload_n (pc := 172) rfl dX8_goes_172 ?_
            refine go_iload (pc := 173) rfl dX8_goes_173 ?_
            refine go_iload (pc := 175) rfl dX8_goes_175 ?_
            refine go_invS (pc := 177) (sl := 0) (s_X8_procedurePlace l (d + 2) hvx l5 (by rw [show (l5 : Int32).toInt = l5.toInt from (ti_rfl l5)]; omega) (by rw [show (l5 : Int32).toInt = l5.toInt from (ti_rfl l5)]; omega) l4 (by rw [show (l4 : Int32).toInt = l4.toInt from (ti_rfl l4)]; omega) (by rw [show (l4 : Int32).toInt = l4.toInt from (ti_rfl l4)]; omega)) mL_X8_300 iM_X8_procedurePlace rfl rfl (Nat.le_of_ble_eq_true rfl) (show d + 2 + 1 + 1 ≤ d + 4 by omega) (show 8 + (2 + 11) + 40 * (d + 2 + 1) ≤ 40 * (d + 4) by omega) (g_c0 hvx.ln) (Nat.le_of_ble_eq_true rfl) dX8_goes_177 ?_
            intro r h66 hq _
            obtain ⟨v67, rfl, v67l, v67u, rfl⟩ := hq
            refine go_invV (pc := 180) (sl := 0) (s_X8_reach l (d + 1) hvx v67 (by rw [show (v67 : Int32).toInt = v67.toInt from (ti_rfl v67)]; omega) (by rw [show (v67 : Int32).toInt = v67.toInt from (ti_rfl v67)]; omega) x0.1) mL_X8_347 iM_X8_reach sM_X8_reach (hvx.sh rfl) rfl rfl rfl (Nat.le_of_ble_eq_true rfl) (show d + 1 + 2 + 1 ≤ d + 4 by omega) (show 8 + (2 + 11) + 40 * (d + 1 + 2) ≤ 40 * (d + 4) by omega) (g_c0 hvx.ln) (Nat.le_of_ble_eq_true rfl) dX8_goes_180 ?_
            intro r h68 hq _
            obtain ⟨rfl, hv68, f69⟩ := hq
            have ph70s := (RC.ph f69 (by omega) (by omega) x0.1)
            have ph70c := ph70s.2.1
            have ph70 : PH h.2.1 h68.2.1 := x0.trans ph70s
            have ph70a := ph70.1
            have ph70b := ph70.2.1
            refine go_iload_n (pc := 183) rfl dX8_goes_183 ?_
            exact go_lv rfl (ih.2.2.2 l1 l2 l3 l4 l1 h68 hv68 (by omega) (by omega) (by omega) (by omega) (by omega) (by omega) (by omega) (by omega) (by omega) (by omega) ph70 ⟨⟨ct_lo _ _, ct_hi _ _⟩, (hv68.2.1 70 47)⟩ (by omega))
        ·
          refine go_aload_n (pc := 124) rfl dX8_goes_124 ?_
          refine gi_getF (pc := 125) (q := 108) hvx fL_X8_124 rfl (Nat.le_of_ble_eq_true rfl) rfl (hvx.rf (by decide)) dX8_goes_125 ?_
          refine go_bipush (pc := 128) (v := 6) (by decide) dX8_goes_128 ?_
          refine go_iload (pc := 130) rfl dX8_goes_130 ?_
          refine gf_imul (pc := 132) (ti_c (v := 6) (a := 6) (by decide)) (ti_rfl l5) (by omega) (by omega) dX8_goes_132 (fun v71 e72 => ?_)
          refine go_iload (pc := 133) rfl dX8_goes_133 ?_
          refine gf_iadd (pc := 135) e72 (ti_rfl l4) (by omega) (by omega) dX8_goes_135 (fun v73 e74 => ?_)
          refine go_bipush (pc := 136) (v := 7) (by decide) dX8_goes_136 ?_
          refine gf_isub (pc := 138) e74 (ti_c (v := 7) (a := 7) (by decide)) (by omega) (by omega) dX8_goes_138 (fun v75 e76 => ?_)
          refine gi_iald (pc := 139) (lo := -2147483648) (hi := 2147483647) (len := 30) hvx e76 rfl (by omega) (by omega) (fun _ => rfl) dX8_goes_139 (fun v77 v77l v77u v77w => ?_)
          refine go_iload (pc := 140) rfl dX8_goes_140 ?_
          refine gu_ishr (pc := 142) dX8_goes_142 (fun v78 => ?_)
          refine go_iconst (pc := 143) (v := 1) (by decide) dX8_goes_143 ?_
          refine gf_iand (pc := 144) (ti_c (v := 1) (a := 1) (by decide)) (by omega) dX8_goes_144 (fun v79 v79l v79u => ?_)
          refine go_iconst (pc := 145) (v := 1) (by decide) dX8_goes_145 ?_
          refine gf_icmp_ne (pc := 146) (tgt := 162) (ti_rfl v79) (ti_c (v := 1) (a := 1) (by decide)) (by decide) dX8_goes_146 (fun q80 => ?_) (fun q80 => ?_)
          ·
            refine gf_iinc (pc := 162) (Nat.le_of_ble_eq_true rfl) rfl (ti_rfl l6) (ti_c (by decide)) (by omega) (by omega) dX8_goes_162 (fun v81 e82 => ?_)
            refine go_lv (lv2 := [(0, .ref 70), (1, .int l1), (2, .int l2), (3, .int l3), (4, .int l4), (5, .int l5), (6, .int v81)]) rfl ?_
            refine go_goto (pc := 165) (tgt := 117) (by decide) dX8_goes_165 ?_
            have z83 : (v81 : Int32).toInt = (l6.toInt + 1) := e82
            exact go_lv rfl (ih.2.2.1 l1 l2 l3 l4 l5 v81 hx hvx (by omega) (by omega) (by omega) (by omega) (by omega) (by omega) (by omega) (by omega) (by omega) (by omega) (by omega) (by omega) x0 ⟨⟨ct_lo _ _, ct_hi _ _⟩, (hvx.2.1 70 47)⟩ (by omega) (by omega) (by omega) (by omega))
          ·
            refine go_aload_n (pc := 149) rfl dX8_goes_149 ?_
            refine go_iload_n (pc := 150) rfl dX8_goes_150 ?_
            refine go_iload (pc := 151) rfl dX8_goes_151 ?_
            refine gf_isub (pc := 153) (ti_rfl l3) (ti_rfl l4) (by omega) (by omega) dX8_goes_153 (fun v84 e85 => ?_)
            refine go_iconst (pc := 154) (v := 1) (by decide) dX8_goes_154 ?_
            refine gf_iadd (pc := 155) e85 (ti_c (v := 1) (a := 1) (by decide)) (by omega) (by omega) dX8_goes_155 (fun v86 e87 => ?_)
            refine go_iload (pc := 156) rfl dX8_goes_156 ?_
            refine gf_iadd (pc := 158) e87 (ti_rfl l6) (by omega) (by omega) dX8_goes_158 (fun v88 e89 => ?_)
            have z90 : (v88 : Int32).toInt = (((l3.toInt - l4.toInt) + 1) + l6.toInt) := e89
            refine go_invV (pc := 159) (sl := 0) (s_X8_reach l (d + 1) hvx v88 (by rw [show (v88 : Int32).toInt = (((l3.toInt - l4.toInt) + 1) + l6.toInt) from e89]; omega) (by rw [show (v88 : Int32).toInt = (((l3.toInt - l4.toInt) + 1) + l6.toInt) from e89]; omega) x0.1) mL_X8_347 iM_X8_reach sM_X8_reach (hvx.sh rfl) rfl rfl rfl (Nat.le_of_ble_eq_true rfl) (show d + 1 + 2 + 1 ≤ d + 4 by omega) (show 8 + (2 + 11) + 40 * (d + 1 + 2) ≤ 40 * (d + 4) by omega) (g_c0 hvx.ln) (Nat.le_of_ble_eq_true rfl) dX8_goes_159 ?_
            intro r h91 hq _
            obtain ⟨rfl, hv91, f92⟩ := hq
            try rw [show (v88 : Int32).toInt = (((l3.toInt - l4.toInt) + 1) + l6.toInt) from e89] at f92
            have ph93s := (RC.ph f92 (by omega) (by omega) x0.1)
            have ph93c := ph93s.2.1
            have ph93 : PH h.2.1 h91.2.1 := x0.trans ph93s
            have ph93a := ph93.1
            have ph93b := ph93.2.1
            refine gf_iinc (pc := 162) (Nat.le_of_ble_eq_true rfl) rfl (ti_rfl l6) (ti_c (by decide)) (by omega) (by omega) dX8_goes_162 (fun v94 e95 => ?_)
            refine go_lv (lv2 := [(0, .ref 70), (1, .int l1), (2, .int l2), (3, .int l3), (4, .int l4), (5, .int l5), (6, .int v94)]) rfl ?_
            refine go_goto (pc := 165) (tgt := 117) (by decide) dX8_goes_165 ?_
            have z96 : (v94 : Int32).toInt = (l6.toInt + 1) := e95
            exact go_lv rfl (ih.2.2.1 l1 l2 l3 l4 l5 v94 h91 hv91 (by omega) (by omega) (by omega) (by omega) (by omega) (by omega) (by omega) (by omega) (by omega) (by omega) (by omega) (by omega) ph93 ⟨⟨ct_lo _ _, ct_hi _ _⟩, (hv91.2.1 70 47)⟩ (by omega) (by omega) (by omega) (by omega))
      ·
        intro l1 l2 l3 l4 s0 hx hvx l1l l1u l2l l2u l3l l3u l4l l4u s0l s0u x0 x1 hm
        obtain ⟨u70_47, u70_47w⟩ : ∃ v : Int32, v = hx.2.1 70 47 := ⟨_, rfl⟩
        have u70_47e : (hx.2.1 70 47).toInt = u70_47.toInt := by rw [u70_47w]
        have u70_47l : 0 ≤ u70_47.toInt := by rw [u70_47w]; exact (hvx.2.1 70 47).1
        have u70_47u : u70_47.toInt ≤ 585 := by rw [u70_47w]; exact (hvx.2.1 70 47).2
        have x0a := x0.1
        have x0b := x0.2.1
        refine gf_if_eq (pc := 184) (tgt := 215) (ti_rfl s0) (by decide) dX8_goes_184 (fun q97 => ?_) (fun q97 => ?_)
        ·
          refine go_goto (pc := 215) (tgt := 0) (by decide) dX8_goes_215 ?_
          exact go_lv rfl (ih.1 l1 l2 hx hvx (by omega) (by omega) (by omega) (by omega) x0 ⟨⟨ct_lo _ _, ct_hi _ _⟩, (hvx.2.1 70 47)⟩ (by omega))
        ·
          refine go_iload_n (pc := 187) rfl dX8_goes_187 ?_
          refine go_sipush (pc := 188) (v := 520) (by decide) dX8_goes_188 ?_
          refine gf_icmp_lt (pc := 191) (tgt := 215) (ti_rfl l3) (ti_c (v := 520) (a := 520) (by decide)) (by decide) dX8_goes_191 (fun q98 => ?_) (fun q98 => ?_)
          ·
            refine go_goto (pc := 215) (tgt := 0) (by decide) dX8_goes_215 ?_
            exact go_lv rfl (ih.1 l1 l2 hx hvx (by omega) (by omega) (by omega) (by omega) x0 ⟨⟨ct_lo _ _, ct_hi _ _⟩, (hvx.2.1 70 47)⟩ (by omega))
          ·
            refine go_iload (pc := 194) rfl dX8_goes_194 ?_
            refine go_bipush (pc := 196) (v := 7) (by decide) dX8_goes_196 ?_
            refine gf_icmp_ge (pc := 198) (tgt := 215) (ti_rfl l4) (ti_c (v := 7) (a := 7) (by decide)) (by decide) dX8_goes_198 (fun q99 => ?_) (fun q99 => ?_)
            ·
              refine go_goto (pc := 215) (tgt := 0) (by decide) dX8_goes_215 ?_
              exact go_lv rfl (ih.1 l1 l2 hx hvx (by omega) (by omega) (by omega) (by omega) x0 ⟨⟨ct_lo _ _, ct_hi _ _⟩, (hvx.2.1 70 47)⟩ (by omega))
            ·
              refine go_aload_n (pc := 201) rfl dX8_goes_201 ?_
              refine go_iload_n (pc := 202) rfl dX8_goes_202 ?_
              refine go_sipush (pc := 203) (v := 520) (by decide) dX8_goes_203 ?_
              refine gf_isub (pc := 206) (ti_rfl l3) (ti_c (v := 520) (a := 520) (by decide)) (by omega) (by omega) dX8_goes_206 (fun v100 e101 => ?_)
              refine go_bipush (pc := 207) (v := 13) (by decide) dX8_goes_207 ?_
              refine gf_idiv (pc := 209) e101 (ti_c (v := 13) (a := 13) (by decide)) (by omega) (by omega) dX8_goes_209 (fun v102 e103 => ?_)
              refine go_iload (pc := 210) rfl dX8_goes_210 ?_
              refine go_invV (pc := 212) (sl := 0) (s_X8_goesUp l (d + 0) hvx v102 (by rw [show (v102 : Int32).toInt = ((l3.toInt - 520) / 13) from e103]; omega) (by rw [show (v102 : Int32).toInt = ((l3.toInt - 520) / 13) from e103]; omega) l4 (by rw [show (l4 : Int32).toInt = l4.toInt from (ti_rfl l4)]; omega) (by rw [show (l4 : Int32).toInt = l4.toInt from (ti_rfl l4)]; omega) x0.1) mL_X8_353 iM_X8_goesUp sM_X8_goesUp (hvx.sh rfl) rfl rfl rfl (Nat.le_of_ble_eq_true rfl) (show d + 0 + 3 + 1 ≤ d + 4 by omega) (show 8 + (4 + 11) + 40 * (d + 0 + 3) ≤ 40 * (d + 4) by omega) (g_c0 hvx.ln) (Nat.le_of_ble_eq_true rfl) dX8_goes_212 ?_
              intro r h104 hq _
              obtain ⟨rfl, hv104, f105⟩ := hq
              try rw [show (v102 : Int32).toInt = ((l3.toInt - 520) / 13) from e103] at f105
              have ph106s := f105
              have ph106c := ph106s.2.1
              have ph106 : PH h.2.1 h104.2.1 := x0.trans ph106s
              have ph106a := ph106.1
              have ph106b := ph106.2.1
              refine go_goto (pc := 215) (tgt := 0) (by decide) dX8_goes_215 ?_
              exact go_lv rfl (ih.1 l1 l2 h104 hv104 (by omega) (by omega) (by omega) (by omega) ph106 ⟨⟨ct_lo _ _, ct_hi _ _⟩, (hv104.2.1 70 47)⟩ (by omega))
  have c0 := ct_lo h.2.1 109
  have w0 : WT h.2.1 ≤ 585 := (hv.2.1 70 47).2
  exact go_lv rfl ((key 2200001).1 a2 a3 h hv (by omega) (by omega) (by omega) (by omega) (PH.rfl hw) ⟨⟨ct_lo _ _, ct_hi _ _⟩, (hv.2.1 70 47)⟩ (by omega))
