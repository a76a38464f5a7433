/-! blocks, trys, statements, loops: the class's moves go along the reference's runs -/
/-- what stands where a run of a part of the text ends: how 0 it goes on at eo, 1 returned, 2 thrown (to the try tb; -1: none), 3 cut -/
def OUT (c : Nat) (S : Int) (T : ST) (FI : Int → Int) (F : Nat → Nat → Int) (O : Int → Int) (L tb eo : Int) (x' y' : ST) (how : Int) : Prop := (how = 0 ∧ REL c S F O L x' y' ∧ UMT x' eo) ∨ (how = 1 ∧ ∃ x1, REL c S F O L x1 y' ∧ x' = f_X2_leave2 x1 (y'.1 70 52) 0) ∨ (how = 2 ∧ tb = -1 ∧ ∃ x1, REL c S F O L x1 y' ∧ x' = f_X2_leave2 x1 (y'.1 70 52) 1) ∨ (how = 2 ∧ ¬ tb = -1 ∧ REL c S F O L x' (sI y' 114 (6 * L + gI T 82 tb).toNat (y'.1 70 52)) ∧ UMT x' (FI (gI T 86 tb))) ∨ (how = 3 ∧ x'.1 64 6 = 2)
/-- the class's moves beside a run of the reference -/
def SIM (c : Nat) (S : Int) (T : ST) (FI : Int → Int) (F : Nat → Nat → Int) (O : Int → Int) (L tb eo : Int) (x y : ST) (z : ST × Int) : Prop := ∃ m x', MVS m x x' ∧ (m : Int) ≤ 2 * (z.1.1 70 53 - y.1 70 53) + 1 ∧ (¬ z.2 = 3 → (m : Int) ≤ 2 * (z.1.1 70 53 - y.1 70 53)) ∧ OUT c S T FI F O L tb eo x' z.1 z.2
/-- the same, from where a statement was begun: one move less to spare -/
def SIN (c : Nat) (S : Int) (T : ST) (FI : Int → Int) (F : Nat → Nat → Int) (O : Int → Int) (L tb eo : Int) (x y : ST) (z : ST × Int) : Prop := ∃ m x', MVS m x x' ∧ (m : Int) ≤ 2 * (z.1.1 70 53 - y.1 70 53) + 1 ∧ OUT c S T FI F O L tb eo x' z.1 z.2
section K
variable {c : Nat} {S P L : Int} {T x y : ST} {EN FI EO BH TB O : Int → Int} {F : Nat → Nat → Int}
theorem SIM.nil {tb eo : Int} (r : REL c S F O L x y) (u : UMT x eo) : SIM c S T FI F O L tb eo x y (y, 0) := ⟨0, x, rfl, by show (0 : Int) ≤ 2 * (y.1 70 53 - y.1 70 53) + 1; omega, fun _ => by show (0 : Int) ≤ 2 * (y.1 70 53 - y.1 70 53); omega, Or.inl ⟨rfl, r, u⟩⟩
/-- one behind another -/
theorem SIM.seq {tb eo e1 : Int} {z1 z : ST × Int} (a : SIM c S T FI F O L tb e1 x y z1) (h0 : z1.2 = 0) (b : ∀ x1, REL c S F O L x1 z1.1 → UMT x1 e1 → SIM c S T FI F O L tb eo x1 z1.1 z) : SIM c S T FI F O L tb eo x y z := by
  obtain ⟨m, x1, a1, _, a3, o⟩ := a
  have a4 := a3 (by omega)
  have rr : REL c S F O L x1 z1.1 ∧ UMT x1 e1 := by
    rcases o with o | o | o | o | o
    · exact o.2
    · omega
    · omega
    · omega
    · omega
  obtain ⟨m2, x2, b1, b2, b3, b4⟩ := b x1 rr.1 rr.2
  refine ⟨m + m2, x2, MVS.tr m m2 _ _ _ a1 b1, ?_, fun h => ?_, b4⟩
  · rw [Int.natCast_add]; omega
  · have := b3 h
    rw [Int.natCast_add]; omega
/-- it ended otherwise: no more of it is done -/
theorem SIM.stop {tb eo e1 : Int} {z : ST × Int} (a : SIM c S T FI F O L tb e1 x y z) (h : ¬ z.2 = 0) : SIM c S T FI F O L tb eo x y z := by
  obtain ⟨m, x1, a1, a2, a3, o⟩ := a
  refine ⟨m, x1, a1, a2, a3, ?_⟩
  rcases o with o | o
  · exact absurd o.1 h
  · exact Or.inr o
/-- out of one begun -/
theorem SIN.of {k tb eo : Int} {z : ST × Int} (r : REL c S F O L x y) (u : x.1 64 4 = k) (k0 : 0 ≤ k) (k1 : k < 40) (d : ¬ y.1 70 53 = 3000) (a : SIN c S T FI F O L tb eo (f_X2_perform2 (XD x) k) (YD y) z) : SIM c S T FI F O L tb eo x y z := by
  obtain ⟨m, x1, a1, a2, o⟩ := a
  have e : (YD y).1 70 53 = y.1 70 53 + 1 := sI_eq _ _ _ _
  rw [e] at a2
  have h1 := MVS.one r.1.2.1
  rw [step_go r u k0 k1 d] at h1
  refine ⟨1 + m, x1, MVS.tr 1 m _ _ _ h1 a1, ?_, fun _ => ?_, o⟩
  · rw [Int.natCast_add]; omega
  · rw [Int.natCast_add]; omega
theorem SIM.n {tb eo : Int} {z : ST × Int} (a : SIM c S T FI F O L tb eo x y z) : SIN c S T FI F O L tb eo x y z := by
  obtain ⟨m, x1, a1, a2, _, o⟩ := a
  exact ⟨m, x1, a1, a2, o⟩
/-- behind one move that is paid for -/
theorem SIN.done {tb eo how : Int} {x' y' : ST} (hd : y'.1 70 53 = y.1 70 53) (o : OUT c S T FI F O L tb eo x' y' how) : SIN c S T FI F O L tb eo x' y (y', how) := ⟨0, x', rfl, by show (0 : Int) ≤ 2 * (y'.1 70 53 - y.1 70 53) + 1; omega, o⟩
theorem sees_d {i v : Int} : (f_X8_sees_x y i v).1 70 53 = y.1 70 53 := by
  unfold f_X8_sees_x
  rw [bd_r]
  by_cases z : y.1 70 54 = 500
  · rw [if_neg (fun w => w z)]
  · rw [if_pos z, bd_r, bd_r, bd_r, bd_r, sI_ne (by omega), sI_ne (by omega), sI_ne (by omega)]
theorem tells_d {n v : Int} : (f_X8_tellsName_x y L n v).1 70 53 = y.1 70 53 := by
  unfold f_X8_tellsName_x
  by_cases z : 6 ≤ n
  · rw [if_pos z, bd_r, sI_ne (by omega)]
  · rw [if_neg z, bd_r, sI_ne (by omega)]
/-- room for calls of one another -/
def HGb (T : ST) (L b : Int) (nn : Nat) : Prop := (gI T 92 b = -1 → 30 * (30 - L) + 24 ≤ (nn : Int)) ∧ (¬ gI T 92 b = -1 → 30 * (30 - L) + 3 * (6 - gI T 80 (gI T 92 b)) + 3 ≤ (nn : Int))
def HGi (T : ST) (L i : Int) (nn : Nat) : Prop := 30 * (30 - L) + 3 * (7 - gI T 80 i) + 2 ≤ (nn : Int)
/-- blocks -/
theorem sg_n (f : RNF c S P T EN FI EO BH TB F) {D Y : ST → Int → Int → ST × Int} {b : Int} (hb : CB T S b)
    (sd : ∀ i x y, CJ T S i → ¬ gI T 77 i = 6 → gI T 88 i = b → REL c S F O L x y → UMT x (EN i) → SIM c S T FI F O L (TB b) (BH i) x y (D y i L))
    (sy : ∀ i x y, CJ T S i → gI T 77 i = 6 → gI T 88 i = b → REL c S F O L x y → UMT x (EN i) → SIM c S T FI F O L (TB b) (BH i) x y (Y y i L)) :
    ∀ (n lab : Nat) (i : Int) (x y : ST), (i = -1 ∨ (CJ T S i ∧ gI T 88 i = b)) → (¬ i = -1 → 140 + 130 * S - i < (n : Int)) → 0 < n → REL c S F O L x y → UMT x (if i = -1 then EO b else EN i) → SIM c S T FI F O L (TB b) (EO b) x y (f_X8_goesBlock_b_ D Y n lab L i y) := by
  intro n
  induction n with
  | zero => intros; omega
  | succ n ih =>
    intro lab i x y hi hm _ r u
    rw [f_X8_goesBlock_b_]
    by_cases z : i = -1
    · rw [if_pos z] at u
      rw [if_pos z]
      exact SIM.nil r u
    · rw [if_neg z] at u
      rw [if_neg z]
      have m := hm z
      obtain ⟨ci, bi⟩ : CJ T S i ∧ gI T 88 i = b := by
        rcases hi with q | q
        · exact absurd q z
        · exact q
      have w := f.2.2.1
      have X := f.2.2.2.1
      have tr := f.2.2.2.2.1
      have yq : ∀ {y' : ST}, REL c S F O L x y → ∀ (q : Nat), 77 ≤ q → q ≤ 88 → y.1 q i.toNat = gI T q i := fun r q q1 q2 => by rw [r.2.2.2.2.1 q (by omega) (by omega)]; exact tr q i q1 q2 ci
      have e77 : y.1 77 i.toNat = gI T 77 i := yq (y' := y) r 77 (by omega) (by omega)
      have e78 : y.1 78 i.toNat = gI T 78 i := yq (y' := y) r 78 (by omega) (by omega)
      -- what follows item i
      have nxt : ∀ (x1 y1 : ST), REL c S F O L x1 y1 → UMT x1 (BH i) → SIM c S T FI F O L (TB b) (EO b) x1 y1 (f_X8_goesBlock_b_ D Y n 7 L (y1.1 87 i.toNat) y1) := fun x1 y1 r1 u1 => by
        have e87 : y1.1 87 i.toNat = gI T 87 i := by rw [r1.2.2.2.2.1 87 (by omega) (by omega)]; exact tr 87 i (by omega) (by omega) ci
        rw [e87]
        have bh := w.2.2.2.1 i ci
        rw [bi] at bh
        have hi2 := ci
        unfold CJ at hi2
        have n130 := f.2.2.2.2.2.2.2.2.2
        rcases X.1 i ci with q | ⟨q1, q2, q3⟩
        · rw [if_pos q] at bh
          refine ih 7 _ x1 y1 (Or.inl q) (fun g => absurd q g) (by omega) r1 ?_
          rw [if_pos q, ← bh]
          exact u1
        · have q0 : ¬ gI T 87 i = -1 := by have := f.2.1.1; omega
          rw [if_neg q0] at bh
          refine ih 7 _ x1 y1 (Or.inr ⟨q2, q3.trans bi⟩) (fun _ => by omega) (by omega) r1 ?_
          rw [if_neg q0, ← bh]
          exact u1
      rw [bd_r, e77]
      by_cases k6 : gI T 77 i = 6
      · rw [if_neg (fun g => g k6), bd2_r]
        have s := sy i x y ci k6 bi r u
        by_cases h0 : (Y y i L).2 = 0
        · rw [if_pos h0, bd_r]
          exact s.seq h0 (fun x1 r1 u1 => nxt x1 _ r1 u1)
        · rw [if_neg h0]
          exact s.stop h0
      · rw [if_pos k6, bd_r, r.2.2.2.1.2.2, bd_r, e78, bd_r]
        have sf := f.2.2.2.2.2.2.2.2.1 i ci k6
        have hk : ¬ f_X8_has y (-1) (gI T 78 i) = 0 := fun g => (has2_r (s := y) (x := (-1 : Int64)) sf.1.1 (by have := sf.1.2; omega)).mp g (all_1 sf.1.1 (by have := sf.1.2; omega))
        rw [if_neg hk, bd2_r]
        have s := sd i x y ci k6 bi r u
        by_cases h0 : (D y i L).2 = 0
        · rw [if_pos h0, bd_r]
          exact s.seq h0 (fun x1 r1 u1 => nxt x1 _ r1 u1)
        · rw [if_neg h0]
          exact s.stop h0
theorem sg_1 (f : RNF c S P T EN FI EO BH TB F) {nn : Nat} {D Y : ST → Int → Int → ST × Int}
    (sd : ∀ i O L x y, CJ T S i → ¬ gI T 77 i = 6 → HGi T L i nn → REL c S F O L x y → UMT x (EN i) → SIM c S T FI F O L (TB (gI T 88 i)) (BH i) x y (D y i L))
    (sy : ∀ i O L x y, CJ T S i → gI T 77 i = 6 → HGi T L i nn → REL c S F O L x y → UMT x (EN i) → SIM c S T FI F O L (TB (gI T 88 i)) (BH i) x y (Y y i L))
    {b : Int} (hb : CB T S b) (hg : HGb T L b (nn + 1)) (r : REL c S F O L x y) (u : UMT x (FI b)) : SIM c S T FI F O L (TB b) (EO b) x y (f_X8_goesBlock_b D Y y b L) := by
  have X := f.2.2.2.1
  have w := f.2.2.1
  unfold f_X8_goesBlock_b
  rw [bd_r, r.2.2.2.2.1 90 (by omega) (by omega), f.2.2.2.2.2.1 b hb]
  have rm : ∀ i, CJ T S i → gI T 88 i = b → HGi T L i nn := fun i hi e => by
    unfold HGi
    unfold HGb at hg
    rcases (X.2.1 i hi).2 with q | ⟨q1, q2, q3, _⟩
    · rw [e] at q
      have := hg.1 q.1
      omega
    · rw [e] at q1 q3
      have n1 : ¬ gI T 92 b = -1 := by
        unfold CJ at q1
        have := f.2.1.1
        omega
      have := hg.2 n1
      omega
  have fb := w.2.1 b hb
  refine sg_n f hb (fun i x y ci k6 bi r u => ?_) (fun i x y ci k6 bi r u => ?_) 1001 7 _ x y ?_ (fun z => ?_) (by omega) r ?_
  · have s := sd i O L x y ci k6 (rm i ci bi) r u
    rw [bi] at s
    exact s
  · have s := sy i O L x y ci k6 (rm i ci bi) r u
    rw [bi] at s
    exact s
  · rcases (X.2.2.1 b hb).1 with q | q
    · exact Or.inl q
    · exact Or.inr q
  · rcases (X.2.2.1 b hb).1 with q | q
    · exact absurd q z
    · have q1 := q.1
      unfold CJ at q1
      omega
  · rw [← fb]
    exact u
/-- a try -/
theorem sy_1 (f : RNF c S P T EN FI EO BH TB F) {nn : Nat} {G : ST → Int → Int → ST × Int}
    (sg : ∀ b O L x y, CB T S b → HGb T L b nn → REL c S F O L x y → UMT x (FI b) → SIM c S T FI F O L (TB b) (EO b) x y (G y b L))
    {i : Int} (ci : CJ T S i) (k6 : gI T 77 i = 6) (hg : HGi T L i (nn + 1)) (r : REL c S F O L x y) (u : UMT x (EN i)) : SIM c S T FI F O L (TB (gI T 88 i)) (BH i) x y (f_X8_tries_b G y i L) := by
  have X := f.2.2.2.1
  have w := f.2.2.1
  have tr := f.2.2.2.2.1
  have nm := f.2.2.2.2.2.2.2.1 i ci k6
  have n56 := (X.2.2.2.2.1 i ci).1 k6
  have i0 : ¬ i = -1 := by
    have q := ci
    unfold CJ at q
    have := f.2.1.1
    omega
  obtain ⟨c5, o5⟩ : CB T S (gI T 85 i) ∧ gI T 92 (gI T 85 i) = i := by
    rcases (X.2.2.2.1 i ci).1 with q | q
    · exact absurd q n56.1
    · exact q
  obtain ⟨c6, o6⟩ : CB T S (gI T 86 i) ∧ gI T 92 (gI T 86 i) = i := by
    rcases (X.2.2.2.1 i ci).2 with q | q
    · exact absurd q n56.2
    · exact q
  have rq : ∀ {y1 x1 : ST}, REL c S F O L x1 y1 → ∀ (q : Nat), 77 ≤ q → q ≤ 88 → y1.1 q i.toNat = gI T q i := fun r q q1 q2 => by rw [r.2.2.2.2.1 q (by omega) (by omega)]; exact tr q i q1 q2 ci
  have hb : ∀ b, gI T 92 b = i → HGb T L b nn := fun b e => by
    unfold HGi at hg
    unfold HGb
    rw [e]
    exact ⟨fun z => absurd z i0, fun _ => by omega⟩
  have eo : ∀ b, CB T S b → gI T 92 b = i → EO b = BH i := fun b cb e => by
    have q := w.2.2.1 b cb
    rw [e, if_neg i0, if_neg (by omega)] at q
    exact q
  have t5 : TB (gI T 85 i) = i := by
    have q := w.2.2.2.2.1 _ c5
    rw [o5, if_neg i0, if_pos ⟨k6, rfl⟩] at q
    exact q
  have t6 : gI T 86 i ≠ gI T 85 i → TB (gI T 86 i) = TB (gI T 88 i) := fun ne => by
    have q := w.2.2.2.2.1 _ c6
    rw [o6, if_neg i0, if_neg (fun g => ne g.2.symm)] at q
    exact q
  have en6 := w.1 i ci
  rw [if_pos k6] at en6
  rw [en6] at u
  unfold f_X8_tries_b
  rw [bd_r, rq r 85 (by omega) (by omega), bd2_r]
  have s := sg _ O L x y c5 (hb _ o5) r u
  rw [t5, eo _ c5 o5] at s
  generalize G y (gI T 85 i) L = z at s ⊢
  by_cases h2 : z.2 = 2
  · rw [if_pos h2, bd_r, bd_r, bd_r, bd_r, bd2_r]
    obtain ⟨m, x1, a1, _, a3, o⟩ := s
    have a4 := a3 (by omega)
    have rr : REL c S F O L x1 (sI z.1 114 (6 * L + gI T 82 i).toNat (z.1.1 70 52)) ∧ UMT x1 (FI (gI T 86 i)) := by
      rcases o with o | o | o | o | o
      · omega
      · omega
      · exact absurd o.2.1 i0
      · exact o.2.2
      · omega
    have e82 : z.1.1 82 i.toNat = gI T 82 i := by
      have q := rq rr.1 82 (by omega) (by omega)
      rw [sI_ne (by omega)] at q
      exact q
    rw [e82]
    have e86 := rq rr.1 86 (by omega) (by omega)
    rw [e86]
    have s2 := sg _ O L x1 _ c6 (hb _ o6) rr.1 rr.2
    rw [t6 nm.2.2, eo _ c6 o6] at s2
    obtain ⟨m2, x2, b1, b2, b3, b4⟩ := s2
    have ed : (sI z.1 114 (6 * L + gI T 82 i).toNat (z.1.1 70 52)).1 70 53 = z.1.1 70 53 := sI_ne (by omega)
    rw [ed] at b2 b3
    refine ⟨m + m2, x2, MVS.tr m m2 _ _ _ a1 b1, ?_, fun h => ?_, b4⟩
    · rw [Int.natCast_add]; dsimp only; omega
    · have := b3 h
      rw [Int.natCast_add]; dsimp only; omega
  · rw [if_neg h2]
    obtain ⟨m, x1, a1, a2, a3, o⟩ := s
    refine ⟨m, x1, a1, a2, a3, ?_⟩
    rcases o with o | o | o | o | o
    · exact Or.inl o
    · exact Or.inr (Or.inl o)
    · exact absurd o.1 h2
    · exact absurd o.1 h2
    · exact Or.inr (Or.inr (Or.inr (Or.inr o)))
end K
