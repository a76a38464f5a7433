/-! bits of longs -/
def bt (x : Int64) (k : Int) : Prop := x.toBitVec.getLsbD k.toNat = true
def un (x : Int64) : Int := (x.toBitVec.toNat : Int)
theorem un_lo (x : Int64) : 0 ≤ un x := by unfold un; omega
theorem un_hi (x : Int64) : un x < 18446744073709551616 := by
  unfold un
  have := x.toBitVec.isLt
  omega
theorem un_inj {x y : Int64} (h : un x = un y) : x = y := by
  refine Int64.toBitVec_inj.mp (BitVec.eq_of_toNat_eq ?_)
  unfold un at h
  omega
theorem un_or (x y : Int64) : un x ≤ un (x ||| y) := by
  unfold un
  rw [Int64.toBitVec_or, BitVec.toNat_or]
  exact Int.ofNat_le.mpr Nat.left_le_or
theorem bt_or {x y : Int64} {k : Int} : bt (x ||| y) k ↔ bt x k ∨ bt y k := by
  unfold bt
  rw [Int64.toBitVec_or, BitVec.getLsbD_or, Bool.or_eq_true]
theorem bt_zero {k : Int} : ¬ bt 0 k := by
  unfold bt
  have e : (0 : Int64).toBitVec = 0#64 := rfl
  rw [e, BitVec.getLsbD_zero]
  decide
theorem sh_tab : ∀ n : Fin 64, (((Int32.ofNat n.val).toInt64 &&& 63).toBitVec.smod 64).toNat = n.val := by decide +kernel
theorem sh_n {k : Int32} (h0 : 0 ≤ k.toInt) (h1 : k.toInt ≤ 63) : ((k.toInt64 &&& 63).toBitVec.smod 64).toNat = k.toInt.toNat := by
  have e : k = Int32.ofNat k.toInt.toNat := by
    apply Int32.toInt_inj.mp
    rw [Int32.toInt_ofNat_of_lt (by omega)]
    omega
  have q := sh_tab ⟨k.toInt.toNat, by omega⟩
  have q2 : (((Int32.ofNat k.toInt.toNat).toInt64 &&& 63).toBitVec.smod 64).toNat = k.toInt.toNat := q
  rw [← e] at q2
  exact q2
theorem and_one (y : Int64) : y &&& 1 = 1 ↔ y.toBitVec.getLsbD 0 = true := by
  rw [← Int64.toBitVec_inj, Int64.toBitVec_and]
  have e : (1 : Int64).toBitVec = 1#64 := rfl
  rw [e]
  constructor
  · intro h
    have q := congrArg (fun z : BitVec 64 => z.getLsbD 0) h
    have q2 : (y.toBitVec &&& 1#64).getLsbD 0 = (1#64).getLsbD 0 := q
    rw [BitVec.getLsbD_and, BitVec.getLsbD_one] at q2
    revert q2
    cases y.toBitVec.getLsbD 0 <;> simp
  · intro h
    apply BitVec.eq_of_getLsbD_eq
    intro i hi
    rw [BitVec.getLsbD_and, BitVec.getLsbD_one]
    by_cases q : i = 0
    · subst q; rw [h]; simp
    · simp [q]
theorem has_bit {x : Int64} {k : Int32} (h0 : 0 ≤ k.toInt) (h1 : k.toInt ≤ 63) : ((x >>> (k.toInt64 &&& 63)) &&& 1 = 1) ↔ bt x k.toInt := by
  rw [and_one]
  unfold bt
  have e : (x >>> (k.toInt64 &&& 63)).toBitVec = x.toBitVec.sshiftRight ((k.toInt64 &&& 63).toBitVec.smod 64).toNat := rfl
  rw [e, sh_n h0 h1, BitVec.getLsbD_sshiftRight, if_pos (by omega)]
  simp
theorem bt_shl {k : Int32} (h0 : 0 ≤ k.toInt) (h1 : k.toInt ≤ 63) {j : Int} (hj : 0 ≤ j) : bt (1 <<< (k.toInt64 &&& 63)) j ↔ j = k.toInt := by
  unfold bt
  have e : ((1 : Int64) <<< (k.toInt64 &&& 63)).toBitVec = (1#64) <<< ((k.toInt64 &&& 63).toBitVec.smod 64).toNat := rfl
  rw [e, sh_n h0 h1, BitVec.getLsbD_shiftLeft, BitVec.getLsbD_one]
  simp only [Bool.and_eq_true, decide_eq_true_eq, Bool.not_eq_true', decide_eq_false_iff_not]
  omega
theorem cmp_eq (x y : Int64) : (lg_cmp x y).toInt = 0 ↔ x = y := by
  unfold lg_cmp
  by_cases e : x = y
  · subst e
    rw [if_neg Int64.lt_irrefl, if_pos rfl]
    exact ⟨fun _ => rfl, fun _ => by decide⟩
  · by_cases g : x > y
    · rw [if_pos g]
      exact ⟨fun h => absurd h (by decide), fun h => absurd h e⟩
    · rw [if_neg g, if_neg e]
      exact ⟨fun h => absurd h (by decide), fun h => absurd h e⟩
/-- cells up to m of the tree stay -/
def KX (m : Nat) (F G : FN) : Prop := ∀ (c j : Nat), 73 ≤ c → c ≤ m → G c j = F c j
theorem KX.rfl (m : Nat) (F : FN) : KX m F F := fun _ _ _ _ => _root_.rfl
theorem KX.trans {m : Nat} {F G H : FN} (h : KX m F G) (g : KX m G H) : KX m F H := fun c j a b => (g c j a b).trans (h c j a b)
theorem KX.ve {m : Nat} {F G : FN} (hm : m ≤ 102) (h : VE F G) : KX m F G := fun c j a b => h c j a (by omega)
theorem KX.w {m c : Nat} {F : FN} {i : Int} {x : Int32} (h : m < c) : KX m F (w1 F c i x) := fun c' j a b => by
  show (if c' = c ∧ j = i.toNat then x else F c' j) = _
  rw [if_neg (by omega)]
theorem KX.v {m : Nat} {F G : FN} (h : KX m F G) {c : Nat} {i : Int} (h1 : 73 ≤ c) (h2 : c ≤ m) : V G c i = V F c i := by unfold V; rw [h c _ h1 h2]
theorem KX.mono {m n : Nat} {F G : FN} (h : KX m F G) (hn : n ≤ m) : KX n F G := fun c j a b => h c j a (by omega)
theorem II.kx {m : Nat} {F G : FN} (h : KX m F G) (hm : 94 ≤ m) {s i : Int} : II G s i ↔ II F s i := by unfold II; rw [h.v (by omega) (by omega)]
theorem BB.kx {m : Nat} {F G : FN} (h : KX m F G) (hm : 94 ≤ m) {s i : Int} : BB G s i ↔ BB F s i := by unfold BB; rw [h.v (by omega) (by omega)]
theorem TR.kx {m : Nat} {F G : FN} (h : KX m F G) (hm : 94 ≤ m) {s : Int} (t : TR F s) : TR G s := by
  refine TR.cong (F := F) (fun c' j q => h.v (by omega) (by omega)) t (fun j hj => ?_) (fun j hj => ?_)
  · have := t.2.2.2.1 j hj
    unfold T3 at *
    rw [h.v (c := 77) (by omega) (by omega), h.v (c := 78) (by omega) (by omega), h.v (c := 75) (by omega) (by omega), h.v (c := 93) (by omega) (by omega), h.v (c := 82) (by omega) (by omega), h.v (c := 89) (by omega) (by omega), h.v (c := 89) (by omega) (by omega)]
    exact this
  · have := t.2.2.2.2.1 j hj
    unfold T4 at *
    rw [BB.kx h hm, BB.kx h hm, h.v (c := 85) (by omega) (by omega), h.v (c := 86) (by omega) (by omega), h.v (c := 92) (by omega) (by omega), h.v (c := 92) (by omega) (by omega)]
    exact this
theorem CN.kx {m : Nat} {F G : FN} (h : KX m F G) (hm : 94 ≤ m) {s n d : Int} (t : CN F s n d) : CN G s n d := by
  intro j h1 h2
  rw [h.v (c := 73) (by omega) (by omega)] at h2
  have := t j h1 h2
  unfold CC at *
  rw [h.v (c := 80) (by omega) (by omega), h.v (c := 77) (by omega) (by omega), h.v (c := 82) (by omega) (by omega), h.v (c := 85) (by omega) (by omega), h.v (c := 86) (by omega) (by omega)]
  exact this
theorem RD.kx {m : Nat} {F G : FN} (h : KX m F G) (hm : 94 ≤ m) {s : Int} (r : RD F s) : RD G s := by
  obtain ⟨a, b, c⟩ := r
  refine ⟨a.kx h hm, b.kx h hm, fun p h1 h2 => ?_⟩
  rw [h.v (c := 76) (by omega) (by omega)] at h2
  rw [BB.kx h hm, h.v (c := 94) (by omega) (by omega), h.v (c := 92) (by omega) (by omega)]
  exact c p h1 h2
theorem TD.kx {m : Nat} {F G : FN} (h : KX m F G) (hm : 94 ≤ m) {s : Int} (r : TD F s) : TD G s := by
  intro k h1 h2
  rw [h.v (c := 75) (by omega) (by omega)] at h2
  rw [h.v (c := 84) (by omega) (by omega), h.v (c := 93) (by omega) (by omega), h.v (c := 76) (by omega) (by omega)]
  exact r k h1 h2
/-! ways -/
def wy (F : FN) (S s e : Int) : Int :=
  if V F 77 (V F 93 (40 * S + s)) = 0 then (if e = 0 then V F 95 (40 * S + s) else -2)
  else if V F 77 (V F 93 (40 * S + s)) = 1 then (if e = 0 then (if V F 101 (5 * S + V F 84 (V F 93 (40 * S + s))) = 1 then V F 95 (40 * S + s) else -2) else if V F 102 (5 * S + V F 84 (V F 93 (40 * S + s))) = 1 then V F 98 (40 * S + s) else -2)
  else if V F 77 (V F 93 (40 * S + s)) = 2 then (if e = 0 then V F 96 (40 * S + s) else V F 97 (40 * S + s))
  else if V F 77 (V F 93 (40 * S + s)) = 3 then (if e = 0 then V F 96 (40 * S + s) else V F 95 (40 * S + s))
  else if V F 77 (V F 93 (40 * S + s)) = 4 then (if e = 0 then -2 else V F 98 (40 * S + s))
  else if e = 0 then -1 else -2
def wo (F : FN) (S s e : Int) : Int :=
  if V F 77 (V F 93 (40 * S + s)) = 2 ∨ V F 77 (V F 93 (40 * S + s)) = 3 then wy F S s e
  else if V F 77 (V F 93 (40 * S + s)) = 5 then (if e = 0 then -1 else V F 95 (40 * S + s))
  else if V F 77 (V F 93 (40 * S + s)) = 4 then (if e = 0 then V F 98 (40 * S + s) else V F 95 (40 * S + s))
  else if V F 77 (V F 93 (40 * S + s)) = 1 then (if e = 0 then V F 95 (40 * S + s) else if V F 102 (5 * S + V F 84 (V F 93 (40 * S + s))) = 1 then V F 98 (40 * S + s) else -2)
  else if e = 0 then V F 95 (40 * S + s) else -2
/-- whether an end is a throw -/
def th (F : FN) (S s e : Int) : Int := if e = 1 ∧ (V F 77 (V F 93 (40 * S + s)) = 4 ∨ V F 77 (V F 93 (40 * S + s)) = 1) ∧ V F 99 (40 * S + s) = -1 then 1 else 0
def clo (F : FN) (S : Int) (C : Int → Prop) : Prop := ∀ s e, 0 ≤ s → s < V F 75 S → (e = 0 ∨ e = 1) → C s → 0 ≤ wy F S s e → C (wy F S s e)
def fn_ (F : FN) (S s e t : Int) : Prop := wy F S s e = -1 ∧ th F S s e = t
def hits (F : FN) (S t : Int) (C : Int → Prop) : Prop := ∃ s e, 0 ≤ s ∧ s < V F 75 S ∧ (e = 0 ∨ e = 1) ∧ C s ∧ fn_ F S s e t
/-- what a procedure does comes to its end so -/
def CT (F : FN) (S p t : Int) : Prop := (V F 100 (5 * S + p) = -1 ∧ t = 0) ∨ (0 ≤ V F 100 (5 * S + p) ∧ ∀ C : Int → Prop, clo F S C → C (V F 100 (5 * S + p)) → hits F S t C)
def CI (F : FN) (S p t : Int) (seen was : Int64) (is_ s e : Int) : Prop :=
  (0 ≤ V F 100 (5 * S + p)) ∧
  (∀ C : Int → Prop, clo F S C → C (V F 100 (5 * S + p)) → (∀ j, 0 ≤ j → bt seen j → C j) ∧ (is_ = 1 → hits F S t C)) ∧
  bt seen (V F 100 (5 * S + p)) ∧ (∀ j, 0 ≤ j → bt was j → bt seen j) ∧ un was ≤ un seen ∧
  ∀ s' e', 0 ≤ s' → (e' = 0 ∨ e' = 1) → (s' < s ∨ (s' = s ∧ e' < e)) → s' < V F 75 S → bt was s' → (0 ≤ wy F S s' e' → bt seen (wy F S s' e')) ∧ (fn_ F S s' e' t → is_ = 1)
theorem CI.init {F : FN} {S p t s : Int} {k : Int32} (h0 : 0 ≤ k.toInt) (h1 : k.toInt ≤ 63) (hk : k.toInt = V F 100 (5 * S + p)) : CI F S p t (1 <<< (k.toInt64 &&& 63)) 0 0 s 0 := by
  refine ⟨by omega, fun C _ hc => ⟨fun j hj hb => ?_, fun q => absurd q (by decide)⟩, ?_, fun j _ hb => absurd hb bt_zero, ?_, fun s' e' _ _ _ _ hb => absurd hb bt_zero⟩
  · rw [(bt_shl h0 h1 hj).mp hb, hk]; exact hc
  · rw [← hk]; exact (bt_shl h0 h1 h0).mpr rfl
  · exact un_lo _
theorem CI.start {F : FN} {S p t : Int} {seen was : Int64} {is_ s e : Int} (h : CI F S p t seen was is_ s e) : CI F S p t seen seen is_ 0 0 :=
  ⟨h.1, h.2.1, h.2.2.1, fun _ _ q => q, Int.le_refl _, fun s' e' a b c => by omega⟩
theorem CI.next {F : FN} {S p t : Int} {seen was : Int64} {is_ s e : Int} (h : CI F S p t seen was is_ s e) (hs : 0 ≤ s) (he : e = 2 ∨ ¬ bt seen s) : CI F S p t seen was is_ (s + 1) 0 := by
  refine ⟨h.1, h.2.1, h.2.2.1, h.2.2.2.1, h.2.2.2.2.1, fun s' e' a b c d hb => ?_⟩
  by_cases q : s' < s
  · exact h.2.2.2.2.2 s' e' a b (Or.inl q) d hb
  · have q2 : s' = s := by omega
    rcases he with he | he
    · exact h.2.2.2.2.2 s' e' a b (Or.inr ⟨q2, by omega⟩) d hb
    · rw [q2] at hb
      exact absurd (h.2.2.2.1 s hs hb) he
theorem CI.step {F : FN} {S p t : Int} {seen seen' was : Int64} {is_ is' s e : Int} (h : CI F S p t seen was is_ s e) (hs : 0 ≤ s) (hn : s < V F 75 S) (he : e = 0 ∨ e = 1) (hb : bt seen s)
    (hsn : (wy F S s e < 0 ∧ seen' = seen) ∨ (0 ≤ wy F S s e ∧ un seen ≤ un seen' ∧ ∀ j, 0 ≤ j → (bt seen' j ↔ bt seen j ∨ j = wy F S s e)))
    (hi : (is' = 1 ↔ is_ = 1 ∨ fn_ F S s e t)) : CI F S p t seen' was is' s (e + 1) := by
  have sub : ∀ j, 0 ≤ j → bt seen j → bt seen' j := fun j hj q => by
    rcases hsn with ⟨_, r⟩ | ⟨_, _, r⟩
    · rw [r]; exact q
    · exact (r j hj).mpr (Or.inl q)
  refine ⟨h.1, fun C hc h0 => ⟨fun j hj q => ?_, fun q => ?_⟩, sub _ h.1 h.2.2.1, fun j hj q => sub j hj (h.2.2.2.1 j hj q), ?_, fun s' e' a b c d q => ?_⟩
  · rcases hsn with ⟨_, r⟩ | ⟨r0, _, r⟩
    · rw [r] at q; exact (h.2.1 C hc h0).1 j hj q
    · rcases (r j hj).mp q with w | w
      · exact (h.2.1 C hc h0).1 j hj w
      · rw [w]; exact hc s e hs hn he ((h.2.1 C hc h0).1 s hs hb) r0
  · rcases hi.mp q with w | w
    · exact (h.2.1 C hc h0).2 w
    · exact ⟨s, e, hs, hn, he, (h.2.1 C hc h0).1 s hs hb, w⟩
  · rcases hsn with ⟨_, r⟩ | ⟨_, r, _⟩
    · rw [r]; exact h.2.2.2.2.1
    · have := h.2.2.2.2.1; omega
  · by_cases q3 : s' = s ∧ e' = e
    · rw [q3.1, q3.2]
      refine ⟨fun w => ?_, fun w => hi.mpr (Or.inr w)⟩
      rcases hsn with ⟨r, _⟩ | ⟨_, _, r⟩
      · omega
      · exact (r _ w).mpr (Or.inr rfl)
    · have w := h.2.2.2.2.2 s' e' a b (by omega) d q
      exact ⟨fun z => sub _ z (w.1 z), fun z => hi.mpr (Or.inl (w.2 z))⟩
theorem CI.all {F : FN} {S p t : Int} {seen was : Int64} {is_ s s2 : Int} (h : CI F S p t seen was is_ s 0) (hs : V F 75 S ≤ s) : CI F S p t seen was is_ s2 0 :=
  ⟨h.1, h.2.1, h.2.2.1, h.2.2.2.1, h.2.2.2.2.1, fun s' e' a b c d q => h.2.2.2.2.2 s' e' a b (Or.inl (by omega)) d q⟩
theorem CI.fin {F : FN} {S p t : Int} {seen : Int64} {is_ s : Int} (h : CI F S p t seen seen is_ s 0) (hs : V F 75 S ≤ s) : (is_ = 1 → CT F S p t) ∧ (is_ = 0 → ¬ CT F S p t) := by
  refine ⟨fun q => Or.inr ⟨h.1, fun C hc h0 => (h.2.1 C hc h0).2 q⟩, fun q r => ?_⟩
  rcases r with ⟨r, _⟩ | ⟨_, r⟩
  · have := h.1; omega
  · obtain ⟨s', e', a, b, c, d, f⟩ := r (fun j => 0 ≤ j ∧ bt seen j) (fun s' e' a b c d f => ⟨f, (h.2.2.2.2.2 s' e' a c (Or.inl (by omega)) b d.2).1 f⟩) ⟨h.1, h.2.2.1⟩
    have := (h.2.2.2.2.2 s' e' a c (Or.inl (by omega)) b d.2).2 f
    omega
/-- flags grow -/
def FM (F G : FN) : Prop := ∀ c, c = 101 ∨ c = 102 → ∀ j : Int, V F c j = 1 → V G c j = 1
theorem wy.mono {F G : FN} (h : KX 100 F G) (f : FM F G) (S s e : Int) : wy F S s e = -2 ∨ wy G S s e = wy F S s e := by
  unfold wy
  rw [h.v (c := 77) (by omega) (by omega), h.v (c := 93) (by omega) (by omega), h.v (c := 95) (by omega) (by omega), h.v (c := 96) (by omega) (by omega), h.v (c := 97) (by omega) (by omega), h.v (c := 98) (by omega) (by omega), h.v (c := 84) (by omega) (by omega)]
  have f1 := f 101 (Or.inl rfl) (5 * S + V F 84 (V F 93 (40 * S + s)))
  have f2 := f 102 (Or.inr rfl) (5 * S + V F 84 (V F 93 (40 * S + s)))
  by_cases q1 : V F 101 (5 * S + V F 84 (V F 93 (40 * S + s))) = 1
  · have q2 := f1 q1
    by_cases r1 : V F 102 (5 * S + V F 84 (V F 93 (40 * S + s))) = 1
    · have r2 := f2 r1
      rw [if_pos q1, if_pos q2, if_pos r1, if_pos r2]; exact Or.inr rfl
    · rw [if_pos q1, if_pos q2, if_neg r1]
      (repeat' split) <;> first | exact Or.inr rfl | exact Or.inl rfl | omega
  · by_cases r1 : V F 102 (5 * S + V F 84 (V F 93 (40 * S + s))) = 1
    · have r2 := f2 r1
      rw [if_neg q1, if_pos r1, if_pos r2]
      (repeat' split) <;> first | exact Or.inr rfl | exact Or.inl rfl | omega
    · rw [if_neg q1, if_neg r1]
      (repeat' split) <;> first | exact Or.inr rfl | exact Or.inl rfl | omega
theorem th.kx {F G : FN} (h : KX 100 F G) (S s e : Int) : th G S s e = th F S s e := by
  unfold th
  rw [h.v (c := 77) (by omega) (by omega), h.v (c := 93) (by omega) (by omega), h.v (c := 99) (by omega) (by omega)]
theorem CT.mono {F G : FN} (h : KX 100 F G) (f : FM F G) {S p t : Int} (c : CT F S p t) : CT G S p t := by
  have e : V G 100 (5 * S + p) = V F 100 (5 * S + p) := h.v (by omega) (by omega)
  have e5 : V G 75 S = V F 75 S := h.v (by omega) (by omega)
  unfold CT
  rw [e]
  rcases c with c | ⟨c1, c2⟩
  · exact Or.inl c
  · refine Or.inr ⟨c1, fun C hc h0 => ?_⟩
    have hF : clo F S C := fun s e a b d g w => by
      rcases wy.mono h f S s e with q | q
      · omega
      · have := hc s e a (by omega) d g (by omega)
        rw [q] at this
        exact this
    obtain ⟨s, e, a, b, d, g, w1, w2⟩ := c2 C hF h0
    refine ⟨s, e, a, by omega, d, g, ?_, by rw [th.kx h]; exact w2⟩
    rcases wy.mono h f S s e with q | q
    · omega
    · omega
/-- each flag that is set stands -/
def FI (F : FN) (S : Int) : Prop := ∀ p, 0 ≤ p → p < 5 → (V F 101 (5 * S + p) = 1 → CT F S p 0) ∧ (V F 102 (5 * S + p) = 1 → CT F S p 1)
def sm (F : FN) (S : Int) : Int := V F 101 (5 * S) + V F 101 (5 * S + 1) + V F 101 (5 * S + 2) + V F 101 (5 * S + 3) + V F 101 (5 * S + 4) + V F 102 (5 * S) + V F 102 (5 * S + 1) + V F 102 (5 * S + 2) + V F 102 (5 * S + 3) + V F 102 (5 * S + 4)
theorem FM.rfl (F : FN) : FM F F := fun _ _ _ h => h
theorem FM.w {F : FN} {c : Nat} {i : Int} {x : Int32} (h : V F c i = 1 → x.toInt = 1) : FM F (w1 F c i x) := by
  intro c' hc j hj
  rw [V_w1]
  split
  · rename_i q
    have e : V F c' j = V F c i := by unfold V; rw [q.1, q.2]
    rw [e] at hj
    exact h hj
  · exact hj
theorem FM.trans {F G H : FN} (h : FM F G) (g : FM G H) : FM F H := fun c hc j q => g c hc j (h c hc j q)
theorem FI.step {F G : FN} {S p : Int} {r q : Int32} (hS : 0 ≤ S) (h0 : 0 ≤ p) (h1 : p < 5) (f : FI F S) (hG : G = w1 (w1 F 101 (5 * S + p) r) 102 (5 * S + p) q) (hr : r.toInt = 1 → CT F S p 0) (hr' : r.toInt = 0 → ¬ CT F S p 0) (hq : q.toInt = 1 → CT F S p 1) (hq' : q.toInt = 0 → ¬ CT F S p 1) (br : r.toInt = 0 ∨ r.toInt = 1) (bq : q.toInt = 0 ∨ q.toInt = 1)
    (u1 : 0 ≤ V F 101 (5 * S + p) ∧ V F 101 (5 * S + p) ≤ 1) (u2 : 0 ≤ V F 102 (5 * S + p) ∧ V F 102 (5 * S + p) ≤ 1) :
    FI G S ∧ V F 101 (5 * S + p) ≤ r.toInt ∧ V F 102 (5 * S + p) ≤ q.toInt ∧ sm G S = sm F S + r.toInt + q.toInt - V F 101 (5 * S + p) - V F 102 (5 * S + p) := by
  have k1 : V F 101 (5 * S + p) ≤ r.toInt := by
    by_cases z : V F 101 (5 * S + p) = 1
    · have := (f p h0 h1).1 z
      rcases br with w | w
      · exact absurd this (hr' w)
      · omega
    · omega
  have k2 : V F 102 (5 * S + p) ≤ q.toInt := by
    by_cases z : V F 102 (5 * S + p) = 1
    · have := (f p h0 h1).2 z
      rcases bq with w | w
      · exact absurd this (hq' w)
      · omega
    · omega
  have e1 : ∀ j : Int, 0 ≤ j → V G 101 j = if j = 5 * S + p then r.toInt else V F 101 j := fun j hj => by
    rw [hG, V_ne (by omega)]
    by_cases z : j = 5 * S + p
    · rw [if_pos z, z, V_eq]
    · rw [if_neg z, V_nj hj (by omega) z]
  have e2 : ∀ j : Int, 0 ≤ j → V G 102 j = if j = 5 * S + p then q.toInt else V F 102 j := fun j hj => by
    rw [hG]
    by_cases z : j = 5 * S + p
    · rw [if_pos z, z, V_eq]
    · rw [if_neg z, V_nj hj (by omega) z, V_ne (by omega)]
  have kx : KX 100 F G := by rw [hG]; exact (KX.w (by omega)).trans (KX.w (by omega))
  have fm : FM F G := by
    rw [hG]
    exact (FM.w (fun z => by omega)).trans (FM.w (fun z => by rw [V_ne (by omega)] at z; omega))
  refine ⟨fun p' a b => ⟨fun z => ?_, fun z => ?_⟩, k1, k2, ?_⟩
  · rw [e1 _ (by omega)] at z
    by_cases w : p' = p
    · rw [if_pos (by omega)] at z
      rw [w]; exact CT.mono kx fm (hr z)
    · rw [if_neg (by omega)] at z
      exact CT.mono kx fm ((f p' a b).1 z)
  · rw [e2 _ (by omega)] at z
    by_cases w : p' = p
    · rw [if_pos (by omega)] at z
      rw [w]; exact CT.mono kx fm (hq z)
    · rw [if_neg (by omega)] at z
      exact CT.mono kx fm ((f p' a b).2 z)
  · have hp : p = 0 ∨ p = 1 ∨ p = 2 ∨ p = 3 ∨ p = 4 := by omega
    unfold sm
    rw [e1 (5 * S) (by omega), e1 (5 * S + 1) (by omega), e1 (5 * S + 2) (by omega), e1 (5 * S + 3) (by omega), e1 (5 * S + 4) (by omega), e2 (5 * S) (by omega), e2 (5 * S + 1) (by omega), e2 (5 * S + 2) (by omega), e2 (5 * S + 3) (by omega), e2 (5 * S + 4) (by omega)]
    rcases hp with rfl | rfl | rfl | rfl | rfl
    · rw [if_pos (by omega), if_neg (by omega), if_neg (by omega), if_neg (by omega), if_neg (by omega), if_pos (by omega), if_neg (by omega), if_neg (by omega), if_neg (by omega), if_neg (by omega), Int.add_zero]; omega
    · rw [if_neg (by omega), if_pos (by omega), if_neg (by omega), if_neg (by omega), if_neg (by omega), if_neg (by omega), if_pos (by omega), if_neg (by omega), if_neg (by omega), if_neg (by omega)]; omega
    · rw [if_neg (by omega), if_neg (by omega), if_pos (by omega), if_neg (by omega), if_neg (by omega), if_neg (by omega), if_neg (by omega), if_pos (by omega), if_neg (by omega), if_neg (by omega)]; omega
    · rw [if_neg (by omega), if_neg (by omega), if_neg (by omega), if_pos (by omega), if_neg (by omega), if_neg (by omega), if_neg (by omega), if_neg (by omega), if_pos (by omega), if_neg (by omega)]; omega
    · rw [if_neg (by omega), if_neg (by omega), if_neg (by omega), if_neg (by omega), if_pos (by omega), if_neg (by omega), if_neg (by omega), if_neg (by omega), if_neg (by omega), if_pos (by omega)]; omega
theorem sm_hi {P : PP} {h : HP} (hv : Iv P h) (S : Int) : 0 ≤ sm h.2.1 S ∧ sm h.2.1 S ≤ 10 := by
  have a : ∀ j : Int, 0 ≤ V h.2.1 101 j ∧ V h.2.1 101 j ≤ 1 := fun j => hv.2.1 101 j.toNat
  have b : ∀ j : Int, 0 ≤ V h.2.1 102 j ∧ V h.2.1 102 j ≤ 1 := fun j => hv.2.1 102 j.toNat
  unfold sm
  have := a (5 * S); have := a (5 * S + 1); have := a (5 * S + 2); have := a (5 * S + 3); have := a (5 * S + 4)
  have := b (5 * S); have := b (5 * S + 1); have := b (5 * S + 2); have := b (5 * S + 3); have := b (5 * S + 4)
  omega
/-- tests and loops before n lead within -/
def WJ (F G : FN) (S n : Int) : Prop := ∀ k, 0 ≤ k → k < n → (V F 77 (V F 93 (40 * S + k)) = 2 ∨ V F 77 (V F 93 (40 * S + k)) = 3) → -1 ≤ V G 96 (40 * S + k)
theorem WJ.same {F G : FN} {S n i : Int} {c : Nat} {x : Int32} (h : WJ F G S n) (hc : c ≠ 96) : WJ F (w1 G c i x) S n := fun k a b q => by
  rw [V_ne (by omega)]; exact h k a b q
theorem WJ.put {F G : FN} {S n : Int} {x : Int32} (hS : 0 ≤ S) (hn : 0 ≤ n) (h : WJ F G S n) (hx : V F 77 (V F 93 (40 * S + n)) = 2 ∨ V F 77 (V F 93 (40 * S + n)) = 3 → -1 ≤ x.toInt) : WJ F (w1 G 96 (40 * S + n) x) S (n + 1) := fun k a b q => by
  by_cases w : k = n
  · rw [w, V_eq]; rw [w] at q; exact hx q
  · rw [V_nj (by omega) (by omega) (by omega)]
    exact h k a (by omega) q
theorem dX8_laysWays_0 : decode cX8_laysWays 0 = .ok (.iconst 0, 1) := by decide +kernel
theorem dX8_laysWays_1 : decode cX8_laysWays 1 = .ok (.istore_n 1, 1) := by decide +kernel
theorem dX8_laysWays_2 : decode cX8_laysWays 2 = .ok (.iload_n 1, 1) := by decide +kernel
theorem dX8_laysWays_3 : decode cX8_laysWays 3 = .ok (.aload_n 0, 1) := by decide +kernel
theorem dX8_laysWays_4 : decode cX8_laysWays 4 = .ok (.getfield 23, 3) := by decide +kernel
theorem dX8_laysWays_7 : decode cX8_laysWays 7 = .ok (.aload_n 0, 1) := by decide +kernel
theorem dX8_laysWays_8 : decode cX8_laysWays 8 = .ok (.getfield 187, 3) := by decide +kernel
theorem dX8_laysWays_11 : decode cX8_laysWays 11 = .ok (.iaload, 1) := by decide +kernel
theorem dX8_laysWays_12 : decode cX8_laysWays 12 = .ok (.if_icmp .ge 160, 3) := by decide +kernel
theorem dX8_laysWays_15 : decode cX8_laysWays 15 = .ok (.bipush 40, 2) := by decide +kernel
theorem dX8_laysWays_17 : decode cX8_laysWays 17 = .ok (.aload_n 0, 1) := by decide +kernel
theorem dX8_laysWays_18 : decode cX8_laysWays 18 = .ok (.getfield 187, 3) := by decide +kernel
theorem dX8_laysWays_21 : decode cX8_laysWays 21 = .ok (.imul, 1) := by decide +kernel
theorem dX8_laysWays_22 : decode cX8_laysWays 22 = .ok (.iload_n 1, 1) := by decide +kernel
theorem dX8_laysWays_23 : decode cX8_laysWays 23 = .ok (.iadd, 1) := by decide +kernel
theorem dX8_laysWays_24 : decode cX8_laysWays 24 = .ok (.istore_n 2, 1) := by decide +kernel
theorem dX8_laysWays_25 : decode cX8_laysWays 25 = .ok (.aload_n 0, 1) := by decide +kernel
theorem dX8_laysWays_26 : decode cX8_laysWays 26 = .ok (.getfield 77, 3) := by decide +kernel
theorem dX8_laysWays_29 : decode cX8_laysWays 29 = .ok (.iload_n 2, 1) := by decide +kernel
theorem dX8_laysWays_30 : decode cX8_laysWays 30 = .ok (.iaload, 1) := by decide +kernel
theorem dX8_laysWays_31 : decode cX8_laysWays 31 = .ok (.istore_n 3, 1) := by decide +kernel
theorem dX8_laysWays_32 : decode cX8_laysWays 32 = .ok (.aload_n 0, 1) := by decide +kernel
theorem dX8_laysWays_33 : decode cX8_laysWays 33 = .ok (.iload_n 3, 1) := by decide +kernel
theorem dX8_laysWays_34 : decode cX8_laysWays 34 = .ok (.invokevirtual 265, 3) := by decide +kernel
theorem dX8_laysWays_37 : decode cX8_laysWays 37 = .ok (.istore 4, 2) := by decide +kernel
theorem dX8_laysWays_39 : decode cX8_laysWays 39 = .ok (.aload_n 0, 1) := by decide +kernel
theorem dX8_laysWays_40 : decode cX8_laysWays 40 = .ok (.getfield 83, 3) := by decide +kernel
theorem dX8_laysWays_43 : decode cX8_laysWays 43 = .ok (.iload_n 2, 1) := by decide +kernel
theorem dX8_laysWays_44 : decode cX8_laysWays 44 = .ok (.aload_n 0, 1) := by decide +kernel
theorem dX8_laysWays_45 : decode cX8_laysWays 45 = .ok (.iload_n 3, 1) := by decide +kernel
theorem dX8_laysWays_46 : decode cX8_laysWays 46 = .ok (.invokevirtual 262, 3) := by decide +kernel
theorem dX8_laysWays_49 : decode cX8_laysWays 49 = .ok (.iastore, 1) := by decide +kernel
theorem dX8_laysWays_50 : decode cX8_laysWays 50 = .ok (.aload_n 0, 1) := by decide +kernel
theorem dX8_laysWays_51 : decode cX8_laysWays 51 = .ok (.getfield 86, 3) := by decide +kernel
theorem dX8_laysWays_54 : decode cX8_laysWays 54 = .ok (.iload_n 2, 1) := by decide +kernel
theorem dX8_laysWays_55 : decode cX8_laysWays 55 = .ok (.aload_n 0, 1) := by decide +kernel
theorem dX8_laysWays_56 : decode cX8_laysWays 56 = .ok (.getfield 53, 3) := by decide +kernel
theorem dX8_laysWays_59 : decode cX8_laysWays 59 = .ok (.iload_n 3, 1) := by decide +kernel
theorem dX8_laysWays_60 : decode cX8_laysWays 60 = .ok (.iaload, 1) := by decide +kernel
theorem dX8_laysWays_61 : decode cX8_laysWays 61 = .ok (.iconst (-1), 1) := by decide +kernel
theorem dX8_laysWays_62 : decode cX8_laysWays 62 = .ok (.if_icmp .ne 8, 3) := by decide +kernel
theorem dX8_laysWays_65 : decode cX8_laysWays 65 = .ok (.bipush (-2), 2) := by decide +kernel
theorem dX8_laysWays_67 : decode cX8_laysWays 67 = .ok (.goto 13, 3) := by decide +kernel
theorem dX8_laysWays_70 : decode cX8_laysWays 70 = .ok (.aload_n 0, 1) := by decide +kernel
theorem dX8_laysWays_71 : decode cX8_laysWays 71 = .ok (.aload_n 0, 1) := by decide +kernel
theorem dX8_laysWays_72 : decode cX8_laysWays 72 = .ok (.getfield 53, 3) := by decide +kernel
theorem dX8_laysWays_75 : decode cX8_laysWays 75 = .ok (.iload_n 3, 1) := by decide +kernel
theorem dX8_laysWays_76 : decode cX8_laysWays 76 = .ok (.iaload, 1) := by decide +kernel
theorem dX8_laysWays_77 : decode cX8_laysWays 77 = .ok (.invokevirtual 253, 3) := by decide +kernel
theorem dX8_laysWays_80 : decode cX8_laysWays 80 = .ok (.iastore, 1) := by decide +kernel
theorem dX8_laysWays_81 : decode cX8_laysWays 81 = .ok (.aload_n 0, 1) := by decide +kernel
theorem dX8_laysWays_82 : decode cX8_laysWays 82 = .ok (.getfield 89, 3) := by decide +kernel
theorem dX8_laysWays_85 : decode cX8_laysWays 85 = .ok (.iload_n 2, 1) := by decide +kernel
theorem dX8_laysWays_86 : decode cX8_laysWays 86 = .ok (.aload_n 0, 1) := by decide +kernel
theorem dX8_laysWays_87 : decode cX8_laysWays 87 = .ok (.getfield 56, 3) := by decide +kernel
theorem dX8_laysWays_90 : decode cX8_laysWays 90 = .ok (.iload_n 3, 1) := by decide +kernel
theorem dX8_laysWays_91 : decode cX8_laysWays 91 = .ok (.iaload, 1) := by decide +kernel
theorem dX8_laysWays_92 : decode cX8_laysWays 92 = .ok (.iconst (-1), 1) := by decide +kernel
theorem dX8_laysWays_93 : decode cX8_laysWays 93 = .ok (.if_icmp .ne 12, 3) := by decide +kernel
theorem dX8_laysWays_96 : decode cX8_laysWays 96 = .ok (.aload_n 0, 1) := by decide +kernel
theorem dX8_laysWays_97 : decode cX8_laysWays 97 = .ok (.getfield 83, 3) := by decide +kernel
theorem dX8_laysWays_100 : decode cX8_laysWays 100 = .ok (.iload_n 2, 1) := by decide +kernel
theorem dX8_laysWays_101 : decode cX8_laysWays 101 = .ok (.iaload, 1) := by decide +kernel
theorem dX8_laysWays_102 : decode cX8_laysWays 102 = .ok (.goto 13, 3) := by decide +kernel
theorem dX8_laysWays_105 : decode cX8_laysWays 105 = .ok (.aload_n 0, 1) := by decide +kernel
theorem dX8_laysWays_106 : decode cX8_laysWays 106 = .ok (.aload_n 0, 1) := by decide +kernel
theorem dX8_laysWays_107 : decode cX8_laysWays 107 = .ok (.getfield 56, 3) := by decide +kernel
theorem dX8_laysWays_110 : decode cX8_laysWays 110 = .ok (.iload_n 3, 1) := by decide +kernel
theorem dX8_laysWays_111 : decode cX8_laysWays 111 = .ok (.iaload, 1) := by decide +kernel
theorem dX8_laysWays_112 : decode cX8_laysWays 112 = .ok (.invokevirtual 253, 3) := by decide +kernel
theorem dX8_laysWays_115 : decode cX8_laysWays 115 = .ok (.iastore, 1) := by decide +kernel
theorem dX8_laysWays_116 : decode cX8_laysWays 116 = .ok (.aload_n 0, 1) := by decide +kernel
theorem dX8_laysWays_117 : decode cX8_laysWays 117 = .ok (.getfield 92, 3) := by decide +kernel
theorem dX8_laysWays_120 : decode cX8_laysWays 120 = .ok (.iload_n 2, 1) := by decide +kernel
theorem dX8_laysWays_121 : decode cX8_laysWays 121 = .ok (.iload 4, 2) := by decide +kernel
theorem dX8_laysWays_123 : decode cX8_laysWays 123 = .ok (.iconst (-1), 1) := by decide +kernel
theorem dX8_laysWays_124 : decode cX8_laysWays 124 = .ok (.if_icmp .ne 7, 3) := by decide +kernel
theorem dX8_laysWays_127 : decode cX8_laysWays 127 = .ok (.iconst (-1), 1) := by decide +kernel
theorem dX8_laysWays_128 : decode cX8_laysWays 128 = .ok (.goto 14, 3) := by decide +kernel
theorem dX8_laysWays_131 : decode cX8_laysWays 131 = .ok (.aload_n 0, 1) := by decide +kernel
theorem dX8_laysWays_132 : decode cX8_laysWays 132 = .ok (.aload_n 0, 1) := by decide +kernel
theorem dX8_laysWays_133 : decode cX8_laysWays 133 = .ok (.getfield 56, 3) := by decide +kernel
theorem dX8_laysWays_136 : decode cX8_laysWays 136 = .ok (.iload 4, 2) := by decide +kernel
theorem dX8_laysWays_138 : decode cX8_laysWays 138 = .ok (.iaload, 1) := by decide +kernel
theorem dX8_laysWays_139 : decode cX8_laysWays 139 = .ok (.invokevirtual 253, 3) := by decide +kernel
theorem dX8_laysWays_142 : decode cX8_laysWays 142 = .ok (.iastore, 1) := by decide +kernel
theorem dX8_laysWays_143 : decode cX8_laysWays 143 = .ok (.aload_n 0, 1) := by decide +kernel
theorem dX8_laysWays_144 : decode cX8_laysWays 144 = .ok (.getfield 95, 3) := by decide +kernel
theorem dX8_laysWays_147 : decode cX8_laysWays 147 = .ok (.iload_n 2, 1) := by decide +kernel
theorem dX8_laysWays_148 : decode cX8_laysWays 148 = .ok (.iload 4, 2) := by decide +kernel
theorem dX8_laysWays_150 : decode cX8_laysWays 150 = .ok (.iconst (-1), 1) := by decide +kernel
theorem dX8_laysWays_151 : decode cX8_laysWays 151 = .ok (.if_icmp .ne 7, 3) := by decide +kernel
theorem dX8_laysWays_154 : decode cX8_laysWays 154 = .ok (.iconst (-1), 1) := by decide +kernel
theorem dX8_laysWays_155 : decode cX8_laysWays 155 = .ok (.goto 10, 3) := by decide +kernel
theorem dX8_laysWays_158 : decode cX8_laysWays 158 = .ok (.aload_n 0, 1) := by decide +kernel
theorem dX8_laysWays_159 : decode cX8_laysWays 159 = .ok (.getfield 44, 3) := by decide +kernel
theorem dX8_laysWays_162 : decode cX8_laysWays 162 = .ok (.iload 4, 2) := by decide +kernel
theorem dX8_laysWays_164 : decode cX8_laysWays 164 = .ok (.iaload, 1) := by decide +kernel
theorem dX8_laysWays_165 : decode cX8_laysWays 165 = .ok (.iastore, 1) := by decide +kernel
theorem dX8_laysWays_166 : decode cX8_laysWays 166 = .ok (.iinc 1 1, 3) := by decide +kernel
theorem dX8_laysWays_169 : decode cX8_laysWays 169 = .ok (.goto (-167), 3) := by decide +kernel
theorem dX8_laysWays_172 : decode cX8_laysWays 172 = .ok (.iconst 0, 1) := by decide +kernel
theorem dX8_laysWays_173 : decode cX8_laysWays 173 = .ok (.istore_n 1, 1) := by decide +kernel
theorem dX8_laysWays_174 : decode cX8_laysWays 174 = .ok (.iload_n 1, 1) := by decide +kernel
theorem dX8_laysWays_175 : decode cX8_laysWays 175 = .ok (.aload_n 0, 1) := by decide +kernel
theorem dX8_laysWays_176 : decode cX8_laysWays 176 = .ok (.getfield 26, 3) := by decide +kernel
theorem dX8_laysWays_179 : decode cX8_laysWays 179 = .ok (.aload_n 0, 1) := by decide +kernel
theorem dX8_laysWays_180 : decode cX8_laysWays 180 = .ok (.getfield 187, 3) := by decide +kernel
theorem dX8_laysWays_183 : decode cX8_laysWays 183 = .ok (.iaload, 1) := by decide +kernel
theorem dX8_laysWays_184 : decode cX8_laysWays 184 = .ok (.if_icmp .ge 39, 3) := by decide +kernel
theorem dX8_laysWays_187 : decode cX8_laysWays 187 = .ok (.aload_n 0, 1) := by decide +kernel
theorem dX8_laysWays_188 : decode cX8_laysWays 188 = .ok (.getfield 98, 3) := by decide +kernel
theorem dX8_laysWays_191 : decode cX8_laysWays 191 = .ok (.iconst 5, 1) := by decide +kernel
theorem dX8_laysWays_192 : decode cX8_laysWays 192 = .ok (.aload_n 0, 1) := by decide +kernel
theorem dX8_laysWays_193 : decode cX8_laysWays 193 = .ok (.getfield 187, 3) := by decide +kernel
theorem dX8_laysWays_196 : decode cX8_laysWays 196 = .ok (.imul, 1) := by decide +kernel
theorem dX8_laysWays_197 : decode cX8_laysWays 197 = .ok (.iload_n 1, 1) := by decide +kernel
theorem dX8_laysWays_198 : decode cX8_laysWays 198 = .ok (.iadd, 1) := by decide +kernel
theorem dX8_laysWays_199 : decode cX8_laysWays 199 = .ok (.aload_n 0, 1) := by decide +kernel
theorem dX8_laysWays_200 : decode cX8_laysWays 200 = .ok (.aload_n 0, 1) := by decide +kernel
theorem dX8_laysWays_201 : decode cX8_laysWays 201 = .ok (.getfield 80, 3) := by decide +kernel
theorem dX8_laysWays_204 : decode cX8_laysWays 204 = .ok (.iconst 5, 1) := by decide +kernel
theorem dX8_laysWays_205 : decode cX8_laysWays 205 = .ok (.aload_n 0, 1) := by decide +kernel
theorem dX8_laysWays_206 : decode cX8_laysWays 206 = .ok (.getfield 187, 3) := by decide +kernel
theorem dX8_laysWays_209 : decode cX8_laysWays 209 = .ok (.imul, 1) := by decide +kernel
theorem dX8_laysWays_210 : decode cX8_laysWays 210 = .ok (.iload_n 1, 1) := by decide +kernel
theorem dX8_laysWays_211 : decode cX8_laysWays 211 = .ok (.iadd, 1) := by decide +kernel
theorem dX8_laysWays_212 : decode cX8_laysWays 212 = .ok (.iaload, 1) := by decide +kernel
theorem dX8_laysWays_213 : decode cX8_laysWays 213 = .ok (.invokevirtual 253, 3) := by decide +kernel
theorem dX8_laysWays_216 : decode cX8_laysWays 216 = .ok (.iastore, 1) := by decide +kernel
theorem dX8_laysWays_217 : decode cX8_laysWays 217 = .ok (.iinc 1 1, 3) := by decide +kernel
theorem dX8_laysWays_220 : decode cX8_laysWays 220 = .ok (.goto (-46), 3) := by decide +kernel
theorem dX8_laysWays_223 : decode cX8_laysWays 223 = .ok (.return_, 1) := by decide +kernel
