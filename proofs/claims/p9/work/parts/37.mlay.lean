/-! bits of longs -/
def bt (x : Int64) (k : Int) : Prop := x.toBitVec.getLsbD k.toNat = true
def un (x : Int64) : Int := (x.toBitVec.toNat : Int)
theorem un_lo (x : Int64) : 0 ≤ un x := by unfold un; omega
theorem un_hi (x : Int64) : un x < 18446744073709551616 := by
  unfold un
  have := x.toBitVec.isLt
  omega
theorem un_inj {x y : Int64} (h : un x = un y) : x = y := by
  refine Int64.toBitVec_inj.mp (BitVec.eq_of_toNat_eq ?_)
  unfold un at h
  omega
theorem un_or (x y : Int64) : un x ≤ un (x ||| y) := by
  unfold un
  rw [Int64.toBitVec_or, BitVec.toNat_or]
  exact Int.ofNat_le.mpr Nat.left_le_or
theorem bt_or {x y : Int64} {k : Int} : bt (x ||| y) k ↔ bt x k ∨ bt y k := by
  unfold bt
  rw [Int64.toBitVec_or, BitVec.getLsbD_or, Bool.or_eq_true]
theorem bt_zero {k : Int} : ¬ bt 0 k := by
  unfold bt
  have e : (0 : Int64).toBitVec = 0#64 := rfl
  rw [e, BitVec.getLsbD_zero]
  decide
theorem sh_tab : ∀ n : Fin 64, (((Int32.ofNat n.val).toInt64 &&& 63).toBitVec.smod 64).toNat = n.val := by decide +kernel
theorem sh_n {k : Int32} (h0 : 0 ≤ k.toInt) (h1 : k.toInt ≤ 63) : ((k.toInt64 &&& 63).toBitVec.smod 64).toNat = k.toInt.toNat := by
  have e : k = Int32.ofNat k.toInt.toNat := by
    apply Int32.toInt_inj.mp
    rw [Int32.toInt_ofNat_of_lt (by omega)]
    omega
  have q := sh_tab ⟨k.toInt.toNat, by omega⟩
  have q2 : (((Int32.ofNat k.toInt.toNat).toInt64 &&& 63).toBitVec.smod 64).toNat = k.toInt.toNat := q
  rw [← e] at q2
  exact q2
theorem and_one (y : Int64) : y &&& 1 = 1 ↔ y.toBitVec.getLsbD 0 = true := by
  rw [← Int64.toBitVec_inj, Int64.toBitVec_and]
  have e : (1 : Int64).toBitVec = 1#64 := rfl
  rw [e]
  constructor
  · intro h
    have q := congrArg (fun z : BitVec 64 => z.getLsbD 0) h
    have q2 : (y.toBitVec &&& 1#64).getLsbD 0 = (1#64).getLsbD 0 := q
    rw [BitVec.getLsbD_and, BitVec.getLsbD_one] at q2
    revert q2
    cases y.toBitVec.getLsbD 0 <;> simp
  · intro h
    apply BitVec.eq_of_getLsbD_eq
    intro i hi
    rw [BitVec.getLsbD_and, BitVec.getLsbD_one]
    by_cases q : i = 0
    · subst q; rw [h]; simp
    · simp [q]
theorem has_bit {x : Int64} {k : Int32} (h0 : 0 ≤ k.toInt) (h1 : k.toInt ≤ 63) : ((x >>> (k.toInt64 &&& 63)) &&& 1 = 1) ↔ bt x k.toInt := by
  rw [and_one]
  unfold bt
  have e : (x >>> (k.toInt64 &&& 63)).toBitVec = x.toBitVec.sshiftRight ((k.toInt64 &&& 63).toBitVec.smod 64).toNat := rfl
  rw [e, sh_n h0 h1, BitVec.getLsbD_sshiftRight, if_pos (by omega)]
  simp
theorem bt_shl {k : Int32} (h0 : 0 ≤ k.toInt) (h1 : k.toInt ≤ 63) {j : Int} (hj : 0 ≤ j) : bt (1 <<< (k.toInt64 &&& 63)) j ↔ j = k.toInt := by
  unfold bt
  have e : ((1 : Int64) <<< (k.toInt64 &&& 63)).toBitVec = (1#64) <<< ((k.toInt64 &&& 63).toBitVec.smod 64).toNat := rfl
  rw [e, sh_n h0 h1, BitVec.getLsbD_shiftLeft, BitVec.getLsbD_one]
  simp only [Bool.and_eq_true, decide_eq_true_eq, Bool.not_eq_true', decide_eq_false_iff_not]
  omega
theorem cmp_eq (x y : Int64) : (lg_cmp x y).toInt = 0 ↔ x = y := by
  unfold lg_cmp
  by_cases e : x = y
  · subst e
    rw [if_neg Int64.lt_irrefl, if_pos rfl]
    exact ⟨fun _ => rfl, fun _ => by decide⟩
  · by_cases g : x > y
    · rw [if_pos g]
      exact ⟨fun h => absurd h (by decide), fun h => absurd h e⟩
    · rw [if_neg g, if_neg e]
      exact ⟨fun h => absurd h (by decide), fun h => absurd h e⟩
/-- cells up to m of the tree stay -/
def KX (m : Nat) (F G : FN) : Prop := ∀ (c j : Nat), 73 ≤ c → c ≤ m → G c j = F c j
theorem KX.rfl (m : Nat) (F : FN) : KX m F F := fun _ _ _ _ => _root_.rfl
theorem KX.trans {m : Nat} {F G H : FN} (h : KX m F G) (g : KX m G H) : KX m F H := fun c j a b => (g c j a b).trans (h c j a b)
theorem KX.ve {m : Nat} {F G : FN} (hm : m ≤ 102) (h : VE F G) : KX m F G := fun c j a b => h c j a (by omega)
theorem KX.w {m c : Nat} {F : FN} {i : Int} {x : Int32} (h : m < c) : KX m F (w1 F c i x) := fun c' j a b => by
  show (if c' = c ∧ j = i.toNat then x else F c' j) = _
  rw [if_neg (by omega)]
theorem KX.v {m : Nat} {F G : FN} (h : KX m F G) {c : Nat} {i : Int} (h1 : 73 ≤ c) (h2 : c ≤ m) : V G c i = V F c i := by unfold V; rw [h c _ h1 h2]
theorem KX.mono {m n : Nat} {F G : FN} (h : KX m F G) (hn : n ≤ m) : KX n F G := fun c j a b => h c j a (by omega)
theorem II.kx {m : Nat} {F G : FN} (h : KX m F G) (hm : 94 ≤ m) {s i : Int} : II G s i ↔ II F s i := by unfold II; rw [h.v (by omega) (by omega)]
theorem BB.kx {m : Nat} {F G : FN} (h : KX m F G) (hm : 94 ≤ m) {s i : Int} : BB G s i ↔ BB F s i := by unfold BB; rw [h.v (by omega) (by omega)]
theorem TR.kx {m : Nat} {F G : FN} (h : KX m F G) (hm : 94 ≤ m) {s : Int} (t : TR F s) : TR G s := by
  refine TR.cong (F := F) (fun c' j q => h.v (by omega) (by omega)) t (fun j hj => ?_) (fun j hj => ?_)
  · have := t.2.2.2.1 j hj
    unfold T3 at *
    rw [h.v (c := 77) (by omega) (by omega), h.v (c := 78) (by omega) (by omega), h.v (c := 75) (by omega) (by omega), h.v (c := 93) (by omega) (by omega), h.v (c := 82) (by omega) (by omega), h.v (c := 89) (by omega) (by omega), h.v (c := 89) (by omega) (by omega)]
    exact this
  · have := t.2.2.2.2.1 j hj
    unfold T4 at *
    rw [BB.kx h hm, BB.kx h hm, h.v (c := 85) (by omega) (by omega), h.v (c := 86) (by omega) (by omega), h.v (c := 92) (by omega) (by omega), h.v (c := 92) (by omega) (by omega)]
    exact this
theorem CN.kx {m : Nat} {F G : FN} (h : KX m F G) (hm : 94 ≤ m) {s n d : Int} (t : CN F s n d) : CN G s n d := by
  intro j h1 h2
  rw [h.v (c := 73) (by omega) (by omega)] at h2
  have := t j h1 h2
  unfold CC at *
  rw [h.v (c := 80) (by omega) (by omega), h.v (c := 77) (by omega) (by omega), h.v (c := 82) (by omega) (by omega), h.v (c := 85) (by omega) (by omega), h.v (c := 86) (by omega) (by omega)]
  exact this
theorem RD.kx {m : Nat} {F G : FN} (h : KX m F G) (hm : 94 ≤ m) {s : Int} (r : RD F s) : RD G s := by
  obtain ⟨a, b, c⟩ := r
  refine ⟨a.kx h hm, b.kx h hm, fun p h1 h2 => ?_⟩
  rw [h.v (c := 76) (by omega) (by omega)] at h2
  rw [BB.kx h hm, h.v (c := 94) (by omega) (by omega), h.v (c := 92) (by omega) (by omega)]
  exact c p h1 h2
theorem TD.kx {m : Nat} {F G : FN} (h : KX m F G) (hm : 94 ≤ m) {s : Int} (r : TD F s) : TD G s := by
  intro k h1 h2
  rw [h.v (c := 75) (by omega) (by omega)] at h2
  rw [h.v (c := 84) (by omega) (by omega), h.v (c := 93) (by omega) (by omega), h.v (c := 76) (by omega) (by omega)]
  exact r k h1 h2
/-! ways -/
def wy (F : FN) (S s e : Int) : Int :=
  if V F 77 (V F 93 (40 * S + s)) = 0 then (if e = 0 then V F 95 (40 * S + s) else -2)
  else if V F 77 (V F 93 (40 * S + s)) = 1 then (if e = 0 then (if V F 101 (5 * S + V F 84 (V F 93 (40 * S + s))) = 1 then V F 95 (40 * S + s) else -2) else if V F 102 (5 * S + V F 84 (V F 93 (40 * S + s))) = 1 then V F 98 (40 * S + s) else -2)
  else if V F 77 (V F 93 (40 * S + s)) = 2 then (if e = 0 then V F 96 (40 * S + s) else V F 97 (40 * S + s))
  else if V F 77 (V F 93 (40 * S + s)) = 3 then (if e = 0 then V F 96 (40 * S + s) else V F 95 (40 * S + s))
  else if V F 77 (V F 93 (40 * S + s)) = 4 then (if e = 0 then -2 else V F 98 (40 * S + s))
  else if e = 0 then -1 else -2
def wo (F : FN) (S s e : Int) : Int :=
  if V F 77 (V F 93 (40 * S + s)) = 2 ∨ V F 77 (V F 93 (40 * S + s)) = 3 then wy F S s e
  else if V F 77 (V F 93 (40 * S + s)) = 5 then (if e = 0 then -1 else V F 95 (40 * S + s))
  else if V F 77 (V F 93 (40 * S + s)) = 4 then (if e = 0 then V F 98 (40 * S + s) else V F 95 (40 * S + s))
  else if V F 77 (V F 93 (40 * S + s)) = 1 then (if e = 0 then V F 95 (40 * S + s) else if V F 102 (5 * S + V F 84 (V F 93 (40 * S + s))) = 1 then V F 98 (40 * S + s) else -2)
  else if e = 0 then V F 95 (40 * S + s) else -2
/-- whether an end is a throw -/
def th (F : FN) (S s e : Int) : Int := if e = 1 ∧ (V F 77 (V F 93 (40 * S + s)) = 4 ∨ V F 77 (V F 93 (40 * S + s)) = 1) ∧ V F 99 (40 * S + s) = -1 then 1 else 0
def clo (F : FN) (S : Int) (C : Int → Prop) : Prop := ∀ s e, 0 ≤ s → s < V F 75 S → (e = 0 ∨ e = 1) → C s → 0 ≤ wy F S s e → C (wy F S s e)
def fn_ (F : FN) (S s e t : Int) : Prop := wy F S s e = -1 ∧ th F S s e = t
def hits (F : FN) (S t : Int) (C : Int → Prop) : Prop := ∃ s e, 0 ≤ s ∧ s < V F 75 S ∧ (e = 0 ∨ e = 1) ∧ C s ∧ fn_ F S s e t
/-- what a procedure does comes to its end so -/
def CT (F : FN) (S p t : Int) : Prop := (V F 100 (5 * S + p) = -1 ∧ t = 0) ∨ (0 ≤ V F 100 (5 * S + p) ∧ ∀ C : Int → Prop, clo F S C → C (V F 100 (5 * S + p)) → hits F S t C)
def CI (F : FN) (S p t : Int) (seen was : Int64) (is_ s e : Int) : Prop :=
  (0 ≤ V F 100 (5 * S + p)) ∧
  (∀ C : Int → Prop, clo F S C → C (V F 100 (5 * S + p)) → (∀ j, 0 ≤ j → bt seen j → C j) ∧ (is_ = 1 → hits F S t C)) ∧
  bt seen (V F 100 (5 * S + p)) ∧ (∀ j, 0 ≤ j → bt was j → bt seen j) ∧ un was ≤ un seen ∧
  ∀ s' e', 0 ≤ s' → (e' = 0 ∨ e' = 1) → (s' < s ∨ (s' = s ∧ e' < e)) → s' < V F 75 S → bt was s' → (0 ≤ wy F S s' e' → bt seen (wy F S s' e')) ∧ (fn_ F S s' e' t → is_ = 1)
theorem CI.init {F : FN} {S p t s : Int} {k : Int32} (h0 : 0 ≤ k.toInt) (h1 : k.toInt ≤ 63) (hk : k.toInt = V F 100 (5 * S + p)) : CI F S p t (1 <<< (k.toInt64 &&& 63)) 0 0 s 0 := by
  refine ⟨by omega, fun C _ hc => ⟨fun j hj hb => ?_, fun q => absurd q (by decide)⟩, ?_, fun j _ hb => absurd hb bt_zero, ?_, fun s' e' _ _ _ _ hb => absurd hb bt_zero⟩
  · rw [(bt_shl h0 h1 hj).mp hb, hk]; exact hc
  · rw [← hk]; exact (bt_shl h0 h1 h0).mpr rfl
  · exact un_lo _
theorem CI.start {F : FN} {S p t : Int} {seen was : Int64} {is_ s e : Int} (h : CI F S p t seen was is_ s e) : CI F S p t seen seen is_ 0 0 :=
  ⟨h.1, h.2.1, h.2.2.1, fun _ _ q => q, Int.le_refl _, fun s' e' a b c => by omega⟩
theorem CI.next {F : FN} {S p t : Int} {seen was : Int64} {is_ s e : Int} (h : CI F S p t seen was is_ s e) (hs : 0 ≤ s) (he : e = 2 ∨ ¬ bt seen s) : CI F S p t seen was is_ (s + 1) 0 := by
  refine ⟨h.1, h.2.1, h.2.2.1, h.2.2.2.1, h.2.2.2.2.1, fun s' e' a b c d hb => ?_⟩
  by_cases q : s' < s
  · exact h.2.2.2.2.2 s' e' a b (Or.inl q) d hb
  · have q2 : s' = s := by omega
    rcases he with he | he
    · exact h.2.2.2.2.2 s' e' a b (Or.inr ⟨q2, by omega⟩) d hb
    · rw [q2] at hb
      exact absurd (h.2.2.2.1 s hs hb) he
theorem CI.step {F : FN} {S p t : Int} {seen seen' was : Int64} {is_ is' s e : Int} (h : CI F S p t seen was is_ s e) (hs : 0 ≤ s) (hn : s < V F 75 S) (he : e = 0 ∨ e = 1) (hb : bt seen s)
    (hsn : (wy F S s e < 0 ∧ seen' = seen) ∨ (0 ≤ wy F S s e ∧ un seen ≤ un seen' ∧ ∀ j, 0 ≤ j → (bt seen' j ↔ bt seen j ∨ j = wy F S s e)))
    (hi : (is' = 1 ↔ is_ = 1 ∨ fn_ F S s e t)) : CI F S p t seen' was is' s (e + 1) := by
  have sub : ∀ j, 0 ≤ j → bt seen j → bt seen' j := fun j hj q => by
    rcases hsn with ⟨_, r⟩ | ⟨_, _, r⟩
    · rw [r]; exact q
    · exact (r j hj).mpr (Or.inl q)
  refine ⟨h.1, fun C hc h0 => ⟨fun j hj q => ?_, fun q => ?_⟩, sub _ h.1 h.2.2.1, fun j hj q => sub j hj (h.2.2.2.1 j hj q), ?_, fun s' e' a b c d q => ?_⟩
  · rcases hsn with ⟨_, r⟩ | ⟨r0, _, r⟩
    · rw [r] at q; exact (h.2.1 C hc h0).1 j hj q
    · rcases (r j hj).mp q with w | w
      · exact (h.2.1 C hc h0).1 j hj w
      · rw [w]; exact hc s e hs hn he ((h.2.1 C hc h0).1 s hs hb) r0
  · rcases hi.mp q with w | w
    · exact (h.2.1 C hc h0).2 w
    · exact ⟨s, e, hs, hn, he, (h.2.1 C hc h0).1 s hs hb, w⟩
  · rcases hsn with ⟨_, r⟩ | ⟨_, r, _⟩
    · rw [r]; exact h.2.2.2.2.1
    · have := h.2.2.2.2.1; omega
  · by_cases q3 : s' = s ∧ e' = e
    · rw [q3.1, q3.2]
      refine ⟨fun w => ?_, fun w => hi.mpr (Or.inr w)⟩
      rcases hsn with ⟨r, _⟩ | ⟨_, _, r⟩
      · omega
      · exact (r _ w).mpr (Or.inr rfl)
    · have w := h.2.2.2.2.2 s' e' a b (by omega) d q
      exact ⟨fun z => sub _ z (w.1 z), fun z => hi.mpr (Or.inl (w.2 z))⟩
theorem CI.all {F : FN} {S p t : Int} {seen was : Int64} {is_ s s2 : Int} (h : CI F S p t seen was is_ s 0) (hs : V F 75 S ≤ s) : CI F S p t seen was is_ s2 0 :=
  ⟨h.1, h.2.1, h.2.2.1, h.2.2.2.1, h.2.2.2.2.1, fun s' e' a b c d q => h.2.2.2.2.2 s' e' a b (Or.inl (by omega)) d q⟩
theorem CI.fin {F : FN} {S p t : Int} {seen : Int64} {is_ s : Int} (h : CI F S p t seen seen is_ s 0) (hs : V F 75 S ≤ s) : (is_ = 1 → CT F S p t) ∧ (is_ = 0 → ¬ CT F S p t) := by
  refine ⟨fun q => Or.inr ⟨h.1, fun C hc h0 => (h.2.1 C hc h0).2 q⟩, fun q r => ?_⟩
  rcases r with ⟨r, _⟩ | ⟨_, r⟩
  · have := h.1; omega
  · obtain ⟨s', e', a, b, c, d, f⟩ := r (fun j => 0 ≤ j ∧ bt seen j) (fun s' e' a b c d f => ⟨f, (h.2.2.2.2.2 s' e' a c (Or.inl (by omega)) b d.2).1 f⟩) ⟨h.1, h.2.2.1⟩
    have := (h.2.2.2.2.2 s' e' a c (Or.inl (by omega)) b d.2).2 f
    omega
/-- flags grow -/
def FM (F G : FN) : Prop := ∀ c, c = 101 ∨ c = 102 → ∀ j : Int, V F c j = 1 → V G c j = 1
theorem wy.mono {F G : FN} (h : KX 100 F G) (f : FM F G) (S s e : Int) : wy F S s e = -2 ∨ wy G S s e = wy F S s e := by
  unfold wy
  rw [h.v (c := 77) (by omega) (by omega), h.v (c := 93) (by omega) (by omega), h.v (c := 95) (by omega) (by omega), h.v (c := 96) (by omega) (by omega), h.v (c := 97) (by omega) (by omega), h.v (c := 98) (by omega) (by omega), h.v (c := 84) (by omega) (by omega)]
  have f1 := f 101 (Or.inl rfl) (5 * S + V F 84 (V F 93 (40 * S + s)))
  have f2 := f 102 (Or.inr rfl) (5 * S + V F 84 (V F 93 (40 * S + s)))
  by_cases q1 : V F 101 (5 * S + V F 84 (V F 93 (40 * S + s))) = 1
  · have q2 := f1 q1
    by_cases r1 : V F 102 (5 * S + V F 84 (V F 93 (40 * S + s))) = 1
    · have r2 := f2 r1
      rw [if_pos q1, if_pos q2, if_pos r1, if_pos r2]; exact Or.inr rfl
    · rw [if_pos q1, if_pos q2, if_neg r1]
      (repeat' split) <;> first | exact Or.inr rfl | exact Or.inl rfl | omega
  · by_cases r1 : V F 102 (5 * S + V F 84 (V F 93 (40 * S + s))) = 1
    · have r2 := f2 r1
      rw [if_neg q1, if_pos r1, if_pos r2]
      (repeat' split) <;> first | exact Or.inr rfl | exact Or.inl rfl | omega
    · rw [if_neg q1, if_neg r1]
      (repeat' split) <;> first | exact Or.inr rfl | exact Or.inl rfl | omega
theorem th.kx {F G : FN} (h : KX 100 F G) (S s e : Int) : th G S s e = th F S s e := by
  unfold th
  rw [h.v (c := 77) (by omega) (by omega), h.v (c := 93) (by omega) (by omega), h.v (c := 99) (by omega) (by omega)]
theorem CT.mono {F G : FN} (h : KX 100 F G) (f : FM F G) {S p t : Int} (c : CT F S p t) : CT G S p t := by
  have e : V G 100 (5 * S + p) = V F 100 (5 * S + p) := h.v (by omega) (by omega)
  have e5 : V G 75 S = V F 75 S := h.v (by omega) (by omega)
  unfold CT
  rw [e]
  rcases c with c | ⟨c1, c2⟩
  · exact Or.inl c
  · refine Or.inr ⟨c1, fun C hc h0 => ?_⟩
    have hF : clo F S C := fun s e a b d g w => by
      rcases wy.mono h f S s e with q | q
      · omega
      · have := hc s e a (by omega) d g (by omega)
        rw [q] at this
        exact this
    obtain ⟨s, e, a, b, d, g, w1, w2⟩ := c2 C hF h0
    refine ⟨s, e, a, by omega, d, g, ?_, by rw [th.kx h]; exact w2⟩
    rcases wy.mono h f S s e with q | q
    · omega
    · omega
/-- each flag that is set stands -/
def FI (F : FN) (S : Int) : Prop := ∀ p, 0 ≤ p → p < 5 → (V F 101 (5 * S + p) = 1 → CT F S p 0) ∧ (V F 102 (5 * S + p) = 1 → CT F S p 1)
def sm (F : FN) (S : Int) : Int := V F 101 (5 * S) + V F 101 (5 * S + 1) + V F 101 (5 * S + 2) + V F 101 (5 * S + 3) + V F 101 (5 * S + 4) + V F 102 (5 * S) + V F 102 (5 * S + 1) + V F 102 (5 * S + 2) + V F 102 (5 * S + 3) + V F 102 (5 * S + 4)
theorem FM.rfl (F : FN) : FM F F := fun _ _ _ h => h
theorem FM.w {F : FN} {c : Nat} {i : Int} {x : Int32} (h : V F c i = 1 → x.toInt = 1) : FM F (w1 F c i x) := by
  intro c' hc j hj
  rw [V_w1]
  split
  · rename_i q
    have e : V F c' j = V F c i := by unfold V; rw [q.1, q.2]
    rw [e] at hj
    exact h hj
  · exact hj
theorem FM.trans {F G H : FN} (h : FM F G) (g : FM G H) : FM F H := fun c hc j q => g c hc j (h c hc j q)
theorem FI.step {F G : FN} {S p : Int} {r q : Int32} (hS : 0 ≤ S) (h0 : 0 ≤ p) (h1 : p < 5) (f : FI F S) (hG : G = w1 (w1 F 101 (5 * S + p) r) 102 (5 * S + p) q) (hr : r.toInt = 1 → CT F S p 0) (hr' : r.toInt = 0 → ¬ CT F S p 0) (hq : q.toInt = 1 → CT F S p 1) (hq' : q.toInt = 0 → ¬ CT F S p 1) (br : r.toInt = 0 ∨ r.toInt = 1) (bq : q.toInt = 0 ∨ q.toInt = 1)
    (u1 : 0 ≤ V F 101 (5 * S + p) ∧ V F 101 (5 * S + p) ≤ 1) (u2 : 0 ≤ V F 102 (5 * S + p) ∧ V F 102 (5 * S + p) ≤ 1) :
    FI G S ∧ V F 101 (5 * S + p) ≤ r.toInt ∧ V F 102 (5 * S + p) ≤ q.toInt ∧ sm G S = sm F S + r.toInt + q.toInt - V F 101 (5 * S + p) - V F 102 (5 * S + p) := by
  have k1 : V F 101 (5 * S + p) ≤ r.toInt := by
    by_cases z : V F 101 (5 * S + p) = 1
    · have := (f p h0 h1).1 z
      rcases br with w | w
      · exact absurd this (hr' w)
      · omega
    · omega
  have k2 : V F 102 (5 * S + p) ≤ q.toInt := by
    by_cases z : V F 102 (5 * S + p) = 1
    · have := (f p h0 h1).2 z
      rcases bq with w | w
      · exact absurd this (hq' w)
      · omega
    · omega
  have e1 : ∀ j : Int, 0 ≤ j → V G 101 j = if j = 5 * S + p then r.toInt else V F 101 j := fun j hj => by
    rw [hG, V_ne (by omega)]
    by_cases z : j = 5 * S + p
    · rw [if_pos z, z, V_eq]
    · rw [if_neg z, V_nj hj (by omega) z]
  have e2 : ∀ j : Int, 0 ≤ j → V G 102 j = if j = 5 * S + p then q.toInt else V F 102 j := fun j hj => by
    rw [hG]
    by_cases z : j = 5 * S + p
    · rw [if_pos z, z, V_eq]
    · rw [if_neg z, V_nj hj (by omega) z, V_ne (by omega)]
  have kx : KX 100 F G := by rw [hG]; exact (KX.w (by omega)).trans (KX.w (by omega))
  have fm : FM F G := by
    rw [hG]
    exact (FM.w (fun z => by omega)).trans (FM.w (fun z => by rw [V_ne (by omega)] at z; omega))
  refine ⟨fun p' a b => ⟨fun z => ?_, fun z => ?_⟩, k1, k2, ?_⟩
  · rw [e1 _ (by omega)] at z
    by_cases w : p' = p
    · rw [if_pos (by omega)] at z
      rw [w]; exact CT.mono kx fm (hr z)
    · rw [if_neg (by omega)] at z
      exact CT.mono kx fm ((f p' a b).1 z)
  · rw [e2 _ (by omega)] at z
    by_cases w : p' = p
    · rw [if_pos (by omega)] at z
      rw [w]; exact CT.mono kx fm (hq z)
    · rw [if_neg (by omega)] at z
      exact CT.mono kx fm ((f p' a b).2 z)
  · have hp : p = 0 ∨ p = 1 ∨ p = 2 ∨ p = 3 ∨ p = 4 := by omega
    unfold sm
    rw [e1 (5 * S) (by omega), e1 (5 * S + 1) (by omega), e1 (5 * S + 2) (by omega), e1 (5 * S + 3) (by omega), e1 (5 * S + 4) (by omega), e2 (5 * S) (by omega), e2 (5 * S + 1) (by omega), e2 (5 * S + 2) (by omega), e2 (5 * S + 3) (by omega), e2 (5 * S + 4) (by omega)]
    rcases hp with rfl | rfl | rfl | rfl | rfl
    · rw [if_pos (by omega), if_neg (by omega), if_neg (by omega), if_neg (by omega), if_neg (by omega), if_pos (by omega), if_neg (by omega), if_neg (by omega), if_neg (by omega), if_neg (by omega), Int.add_zero]; omega
    · rw [if_neg (by omega), if_pos (by omega), if_neg (by omega), if_neg (by omega), if_neg (by omega), if_neg (by omega), if_pos (by omega), if_neg (by omega), if_neg (by omega), if_neg (by omega)]; omega
    · rw [if_neg (by omega), if_neg (by omega), if_pos (by omega), if_neg (by omega), if_neg (by omega), if_neg (by omega), if_neg (by omega), if_pos (by omega), if_neg (by omega), if_neg (by omega)]; omega
    · rw [if_neg (by omega), if_neg (by omega), if_neg (by omega), if_pos (by omega), if_neg (by omega), if_neg (by omega), if_neg (by omega), if_neg (by omega), if_pos (by omega), if_neg (by omega)]; omega
    · rw [if_neg (by omega), if_neg (by omega), if_neg (by omega), if_neg (by omega), if_pos (by omega), if_neg (by omega), if_neg (by omega), if_neg (by omega), if_neg (by omega), if_pos (by omega)]; omega
theorem sm_hi {P : PP} {h : HP} (hv : Iv P h) (S : Int) : 0 ≤ sm h.2.1 S ∧ sm h.2.1 S ≤ 10 := by
  have a : ∀ j : Int, 0 ≤ V h.2.1 101 j ∧ V h.2.1 101 j ≤ 1 := fun j => hv.2.1 101 j.toNat
  have b : ∀ j : Int, 0 ≤ V h.2.1 102 j ∧ V h.2.1 102 j ≤ 1 := fun j => hv.2.1 102 j.toNat
  unfold sm
  have := a (5 * S); have := a (5 * S + 1); have := a (5 * S + 2); have := a (5 * S + 3); have := a (5 * S + 4)
  have := b (5 * S); have := b (5 * S + 1); have := b (5 * S + 2); have := b (5 * S + 3); have := b (5 * S + 4)
  omega
/-- tests and loops before n lead within -/
def WJ (F G : FN) (S n : Int) : Prop := ∀ k, 0 ≤ k → k < n → (V F 77 (V F 93 (40 * S + k)) = 2 ∨ V F 77 (V F 93 (40 * S + k)) = 3) → -1 ≤ V G 96 (40 * S + k)
theorem WJ.same {F G : FN} {S n i : Int} {c : Nat} {x : Int32} (h : WJ F G S n) (hc : c ≠ 96) : WJ F (w1 G c i x) S n := fun k a b q => by
  rw [V_ne (by omega)]; exact h k a b q
theorem WJ.put {F G : FN} {S n : Int} {x : Int32} (hS : 0 ≤ S) (hn : 0 ≤ n) (h : WJ F G S n) (hx : V F 77 (V F 93 (40 * S + n)) = 2 ∨ V F 77 (V F 93 (40 * S + n)) = 3 → -1 ≤ x.toInt) : WJ F (w1 G 96 (40 * S + n) x) S (n + 1) := fun k a b q => by
  by_cases w : k = n
  · rw [w, V_eq]; rw [w] at q; exact hx q
  · rw [V_nj (by omega) (by omega) (by omega)]
    exact h k a (by omega) q
theorem dX8_laysWays_0 : decode cX8_laysWays 0 = .ok (.iconst 0, 1) := by decide +kernel
theorem dX8_laysWays_1 : decode cX8_laysWays 1 = .ok (.istore_n 1, 1) := by decide +kernel
theorem dX8_laysWays_2 : decode cX8_laysWays 2 = .ok (.iload_n 1, 1) := by decide +kernel
theorem dX8_laysWays_3 : decode cX8_laysWays 3 = .ok (.aload_n 0, 1) := by decide +kernel
theorem dX8_laysWays_4 : decode cX8_laysWays 4 = .ok (.getfield 23, 3) := by decide +kernel
theorem dX8_laysWays_7 : decode cX8_laysWays 7 = .ok (.aload_n 0, 1) := by decide +kernel
theorem dX8_laysWays_8 : decode cX8_laysWays 8 = .ok (.getfield 187, 3) := by decide +kernel
theorem dX8_laysWays_11 : decode cX8_laysWays 11 = .ok (.iaload, 1) := by decide +kernel
theorem dX8_laysWays_12 : decode cX8_laysWays 12 = .ok (.if_icmp .ge 160, 3) := by decide +kernel
theorem dX8_laysWays_15 : decode cX8_laysWays 15 = .ok (.bipush 40, 2) := by decide +kernel
theorem dX8_laysWays_17 : decode cX8_laysWays 17 = .ok (.aload_n 0, 1) := by decide +kernel
theorem dX8_laysWays_18 : decode cX8_laysWays 18 = .ok (.getfield 187, 3) := by decide +kernel
theorem dX8_laysWays_21 : decode cX8_laysWays 21 = .ok (.imul, 1) := by decide +kernel
theorem dX8_laysWays_22 : decode cX8_laysWays 22 = .ok (.iload_n 1, 1) := by decide +kernel
theorem dX8_laysWays_23 : decode cX8_laysWays 23 = .ok (.iadd, 1) := by decide +kernel
theorem dX8_laysWays_24 : decode cX8_laysWays 24 = .ok (.istore_n 2, 1) := by decide +kernel
theorem dX8_laysWays_25 : decode cX8_laysWays 25 = .ok (.aload_n 0, 1) := by decide +kernel
theorem dX8_laysWays_26 : decode cX8_laysWays 26 = .ok (.getfield 77, 3) := by decide +kernel
theorem dX8_laysWays_29 : decode cX8_laysWays 29 = .ok (.iload_n 2, 1) := by decide +kernel
theorem dX8_laysWays_30 : decode cX8_laysWays 30 = .ok (.iaload, 1) := by decide +kernel
theorem dX8_laysWays_31 : decode cX8_laysWays 31 = .ok (.istore_n 3, 1) := by decide +kernel
theorem dX8_laysWays_32 : decode cX8_laysWays 32 = .ok (.aload_n 0, 1) := by decide +kernel
theorem dX8_laysWays_33 : decode cX8_laysWays 33 = .ok (.iload_n 3, 1) := by decide +kernel
theorem dX8_laysWays_34 : decode cX8_laysWays 34 = .ok (.invokevirtual 265, 3) := by decide +kernel
theorem dX8_laysWays_37 : decode cX8_laysWays 37 = .ok (.istore 4, 2) := by decide +kernel
theorem dX8_laysWays_39 : decode cX8_laysWays 39 = .ok (.aload_n 0, 1) := by decide +kernel
theorem dX8_laysWays_40 : decode cX8_laysWays 40 = .ok (.getfield 83, 3) := by decide +kernel
theorem dX8_laysWays_43 : decode cX8_laysWays 43 = .ok (.iload_n 2, 1) := by decide +kernel
theorem dX8_laysWays_44 : decode cX8_laysWays 44 = .ok (.aload_n 0, 1) := by decide +kernel
theorem dX8_laysWays_45 : decode cX8_laysWays 45 = .ok (.iload_n 3, 1) := by decide +kernel
theorem dX8_laysWays_46 : decode cX8_laysWays 46 = .ok (.invokevirtual 262, 3) := by decide +kernel
theorem dX8_laysWays_49 : decode cX8_laysWays 49 = .ok (.iastore, 1) := by decide +kernel
theorem dX8_laysWays_50 : decode cX8_laysWays 50 = .ok (.aload_n 0, 1) := by decide +kernel
theorem dX8_laysWays_51 : decode cX8_laysWays 51 = .ok (.getfield 86, 3) := by decide +kernel
theorem dX8_laysWays_54 : decode cX8_laysWays 54 = .ok (.iload_n 2, 1) := by decide +kernel
theorem dX8_laysWays_55 : decode cX8_laysWays 55 = .ok (.aload_n 0, 1) := by decide +kernel
theorem dX8_laysWays_56 : decode cX8_laysWays 56 = .ok (.getfield 53, 3) := by decide +kernel
theorem dX8_laysWays_59 : decode cX8_laysWays 59 = .ok (.iload_n 3, 1) := by decide +kernel
theorem dX8_laysWays_60 : decode cX8_laysWays 60 = .ok (.iaload, 1) := by decide +kernel
theorem dX8_laysWays_61 : decode cX8_laysWays 61 = .ok (.iconst (-1), 1) := by decide +kernel
theorem dX8_laysWays_62 : decode cX8_laysWays 62 = .ok (.if_icmp .ne 8, 3) := by decide +kernel
theorem dX8_laysWays_65 : decode cX8_laysWays 65 = .ok (.bipush (-2), 2) := by decide +kernel
theorem dX8_laysWays_67 : decode cX8_laysWays 67 = .ok (.goto 13, 3) := by decide +kernel
theorem dX8_laysWays_70 : decode cX8_laysWays 70 = .ok (.aload_n 0, 1) := by decide +kernel
theorem dX8_laysWays_71 : decode cX8_laysWays 71 = .ok (.aload_n 0, 1) := by decide +kernel
theorem dX8_laysWays_72 : decode cX8_laysWays 72 = .ok (.getfield 53, 3) := by decide +kernel
theorem dX8_laysWays_75 : decode cX8_laysWays 75 = .ok (.iload_n 3, 1) := by decide +kernel
theorem dX8_laysWays_76 : decode cX8_laysWays 76 = .ok (.iaload, 1) := by decide +kernel
theorem dX8_laysWays_77 : decode cX8_laysWays 77 = .ok (.invokevirtual 253, 3) := by decide +kernel
theorem dX8_laysWays_80 : decode cX8_laysWays 80 = .ok (.iastore, 1) := by decide +kernel
theorem dX8_laysWays_81 : decode cX8_laysWays 81 = .ok (.aload_n 0, 1) := by decide +kernel
theorem dX8_laysWays_82 : decode cX8_laysWays 82 = .ok (.getfield 89, 3) := by decide +kernel
theorem dX8_laysWays_85 : decode cX8_laysWays 85 = .ok (.iload_n 2, 1) := by decide +kernel
theorem dX8_laysWays_86 : decode cX8_laysWays 86 = .ok (.aload_n 0, 1) := by decide +kernel
theorem dX8_laysWays_87 : decode cX8_laysWays 87 = .ok (.getfield 56, 3) := by decide +kernel
theorem dX8_laysWays_90 : decode cX8_laysWays 90 = .ok (.iload_n 3, 1) := by decide +kernel
theorem dX8_laysWays_91 : decode cX8_laysWays 91 = .ok (.iaload, 1) := by decide +kernel
theorem dX8_laysWays_92 : decode cX8_laysWays 92 = .ok (.iconst (-1), 1) := by decide +kernel
theorem dX8_laysWays_93 : decode cX8_laysWays 93 = .ok (.if_icmp .ne 12, 3) := by decide +kernel
theorem dX8_laysWays_96 : decode cX8_laysWays 96 = .ok (.aload_n 0, 1) := by decide +kernel
theorem dX8_laysWays_97 : decode cX8_laysWays 97 = .ok (.getfield 83, 3) := by decide +kernel
theorem dX8_laysWays_100 : decode cX8_laysWays 100 = .ok (.iload_n 2, 1) := by decide +kernel
theorem dX8_laysWays_101 : decode cX8_laysWays 101 = .ok (.iaload, 1) := by decide +kernel
theorem dX8_laysWays_102 : decode cX8_laysWays 102 = .ok (.goto 13, 3) := by decide +kernel
theorem dX8_laysWays_105 : decode cX8_laysWays 105 = .ok (.aload_n 0, 1) := by decide +kernel
theorem dX8_laysWays_106 : decode cX8_laysWays 106 = .ok (.aload_n 0, 1) := by decide +kernel
theorem dX8_laysWays_107 : decode cX8_laysWays 107 = .ok (.getfield 56, 3) := by decide +kernel
theorem dX8_laysWays_110 : decode cX8_laysWays 110 = .ok (.iload_n 3, 1) := by decide +kernel
theorem dX8_laysWays_111 : decode cX8_laysWays 111 = .ok (.iaload, 1) := by decide +kernel
theorem dX8_laysWays_112 : decode cX8_laysWays 112 = .ok (.invokevirtual 253, 3) := by decide +kernel
theorem dX8_laysWays_115 : decode cX8_laysWays 115 = .ok (.iastore, 1) := by decide +kernel
theorem dX8_laysWays_116 : decode cX8_laysWays 116 = .ok (.aload_n 0, 1) := by decide +kernel
theorem dX8_laysWays_117 : decode cX8_laysWays 117 = .ok (.getfield 92, 3) := by decide +kernel
theorem dX8_laysWays_120 : decode cX8_laysWays 120 = .ok (.iload_n 2, 1) := by decide +kernel
theorem dX8_laysWays_121 : decode cX8_laysWays 121 = .ok (.iload 4, 2) := by decide +kernel
theorem dX8_laysWays_123 : decode cX8_laysWays 123 = .ok (.iconst (-1), 1) := by decide +kernel
theorem dX8_laysWays_124 : decode cX8_laysWays 124 = .ok (.if_icmp .ne 7, 3) := by decide +kernel
theorem dX8_laysWays_127 : decode cX8_laysWays 127 = .ok (.iconst (-1), 1) := by decide +kernel
theorem dX8_laysWays_128 : decode cX8_laysWays 128 = .ok (.goto 14, 3) := by decide +kernel
theorem dX8_laysWays_131 : decode cX8_laysWays 131 = .ok (.aload_n 0, 1) := by decide +kernel
theorem dX8_laysWays_132 : decode cX8_laysWays 132 = .ok (.aload_n 0, 1) := by decide +kernel
theorem dX8_laysWays_133 : decode cX8_laysWays 133 = .ok (.getfield 56, 3) := by decide +kernel
theorem dX8_laysWays_136 : decode cX8_laysWays 136 = .ok (.iload 4, 2) := by decide +kernel
theorem dX8_laysWays_138 : decode cX8_laysWays 138 = .ok (.iaload, 1) := by decide +kernel
theorem dX8_laysWays_139 : decode cX8_laysWays 139 = .ok (.invokevirtual 253, 3) := by decide +kernel
theorem dX8_laysWays_142 : decode cX8_laysWays 142 = .ok (.iastore, 1) := by decide +kernel
theorem dX8_laysWays_143 : decode cX8_laysWays 143 = .ok (.aload_n 0, 1) := by decide +kernel
theorem dX8_laysWays_144 : decode cX8_laysWays 144 = .ok (.getfield 95, 3) := by decide +kernel
theorem dX8_laysWays_147 : decode cX8_laysWays 147 = .ok (.iload_n 2, 1) := by decide +kernel
theorem dX8_laysWays_148 : decode cX8_laysWays 148 = .ok (.iload 4, 2) := by decide +kernel
theorem dX8_laysWays_150 : decode cX8_laysWays 150 = .ok (.iconst (-1), 1) := by decide +kernel
theorem dX8_laysWays_151 : decode cX8_laysWays 151 = .ok (.if_icmp .ne 7, 3) := by decide +kernel
theorem dX8_laysWays_154 : decode cX8_laysWays 154 = .ok (.iconst (-1), 1) := by decide +kernel
theorem dX8_laysWays_155 : decode cX8_laysWays 155 = .ok (.goto 10, 3) := by decide +kernel
theorem dX8_laysWays_158 : decode cX8_laysWays 158 = .ok (.aload_n 0, 1) := by decide +kernel
theorem dX8_laysWays_159 : decode cX8_laysWays 159 = .ok (.getfield 44, 3) := by decide +kernel
theorem dX8_laysWays_162 : decode cX8_laysWays 162 = .ok (.iload 4, 2) := by decide +kernel
theorem dX8_laysWays_164 : decode cX8_laysWays 164 = .ok (.iaload, 1) := by decide +kernel
theorem dX8_laysWays_165 : decode cX8_laysWays 165 = .ok (.iastore, 1) := by decide +kernel
theorem dX8_laysWays_166 : decode cX8_laysWays 166 = .ok (.iinc 1 1, 3) := by decide +kernel
theorem dX8_laysWays_169 : decode cX8_laysWays 169 = .ok (.goto (-167), 3) := by decide +kernel
theorem dX8_laysWays_172 : decode cX8_laysWays 172 = .ok (.iconst 0, 1) := by decide +kernel
theorem dX8_laysWays_173 : decode cX8_laysWays 173 = .ok (.istore_n 1, 1) := by decide +kernel
theorem dX8_laysWays_174 : decode cX8_laysWays 174 = .ok (.iload_n 1, 1) := by decide +kernel
theorem dX8_laysWays_175 : decode cX8_laysWays 175 = .ok (.aload_n 0, 1) := by decide +kernel
theorem dX8_laysWays_176 : decode cX8_laysWays 176 = .ok (.getfield 26, 3) := by decide +kernel
theorem dX8_laysWays_179 : decode cX8_laysWays 179 = .ok (.aload_n 0, 1) := by decide +kernel
theorem dX8_laysWays_180 : decode cX8_laysWays 180 = .ok (.getfield 187, 3) := by decide +kernel
theorem dX8_laysWays_183 : decode cX8_laysWays 183 = .ok (.iaload, 1) := by decide +kernel
theorem dX8_laysWays_184 : decode cX8_laysWays 184 = .ok (.if_icmp .ge 39, 3) := by decide +kernel
theorem dX8_laysWays_187 : decode cX8_laysWays 187 = .ok (.aload_n 0, 1) := by decide +kernel
theorem dX8_laysWays_188 : decode cX8_laysWays 188 = .ok (.getfield 98, 3) := by decide +kernel
theorem dX8_laysWays_191 : decode cX8_laysWays 191 = .ok (.iconst 5, 1) := by decide +kernel
theorem dX8_laysWays_192 : decode cX8_laysWays 192 = .ok (.aload_n 0, 1) := by decide +kernel
theorem dX8_laysWays_193 : decode cX8_laysWays 193 = .ok (.getfield 187, 3) := by decide +kernel
theorem dX8_laysWays_196 : decode cX8_laysWays 196 = .ok (.imul, 1) := by decide +kernel
theorem dX8_laysWays_197 : decode cX8_laysWays 197 = .ok (.iload_n 1, 1) := by decide +kernel
theorem dX8_laysWays_198 : decode cX8_laysWays 198 = .ok (.iadd, 1) := by decide +kernel
theorem dX8_laysWays_199 : decode cX8_laysWays 199 = .ok (.aload_n 0, 1) := by decide +kernel
theorem dX8_laysWays_200 : decode cX8_laysWays 200 = .ok (.aload_n 0, 1) := by decide +kernel
theorem dX8_laysWays_201 : decode cX8_laysWays 201 = .ok (.getfield 80, 3) := by decide +kernel
theorem dX8_laysWays_204 : decode cX8_laysWays 204 = .ok (.iconst 5, 1) := by decide +kernel
theorem dX8_laysWays_205 : decode cX8_laysWays 205 = .ok (.aload_n 0, 1) := by decide +kernel
theorem dX8_laysWays_206 : decode cX8_laysWays 206 = .ok (.getfield 187, 3) := by decide +kernel
theorem dX8_laysWays_209 : decode cX8_laysWays 209 = .ok (.imul, 1) := by decide +kernel
theorem dX8_laysWays_210 : decode cX8_laysWays 210 = .ok (.iload_n 1, 1) := by decide +kernel
theorem dX8_laysWays_211 : decode cX8_laysWays 211 = .ok (.iadd, 1) := by decide +kernel
theorem dX8_laysWays_212 : decode cX8_laysWays 212 = .ok (.iaload, 1) := by decide +kernel
theorem dX8_laysWays_213 : decode cX8_laysWays 213 = .ok (.invokevirtual 253, 3) := by decide +kernel
theorem dX8_laysWays_216 : decode cX8_laysWays 216 = .ok (.iastore, 1) := by decide +kernel
theorem dX8_laysWays_217 : decode cX8_laysWays 217 = .ok (.iinc 1 1, 3) := by decide +kernel
theorem dX8_laysWays_220 : decode cX8_laysWays 220 = .ok (.goto (-46), 3) := by decide +kernel
theorem dX8_laysWays_223 : decode cX8_laysWays 223 = .ok (.return_, 1) := by decide +kernel
set_option maxHeartbeats 4000000 in
set_option maxRecDepth 100000 in
theorem s_X8_laysWays (l : Launch) (d : Nat) {P : PP} {h : HP} (hv : Iv P h) (hr : RD h.2.1 (h.2.1 70 6).toInt) : Mt l yX8_laysWays cX8_laysWays 5 none (d + 541) [.ref 70] h 0 0 (fun r h' => r = none ∧ (∃ Q : PP, Iv Q h' ∧ MW P Q) ∧ (KX 94 h.2.1 h'.2.1) ∧ (WJ h.2.1 h'.2.1 (h.2.1 70 6).toInt (V h.2.1 75 (h.2.1 70 6).toInt)) ∧ (OH h.2.1 h'.2.1 (h.2.1 70 6).toInt) ∧ (CKF h.2.1 → CKF h'.2.1)) := by
  refine Mt_iv hv (by decide) (Nat.le_of_ble_eq_true rfl) ?_
  show Go l RX8 cX8_laysWays 5 (g_rm (d + 541) 0 0) "laysWays" none 117 0 0 (fun _ _ => True) (fun r h' => r = none ∧ (∃ Q : PP, Iv Q h' ∧ MW P Q) ∧ (KX 94 h.2.1 h'.2.1) ∧ (WJ h.2.1 h'.2.1 (h.2.1 70 6).toInt (V h.2.1 75 (h.2.1 70 6).toInt)) ∧ (OH h.2.1 h'.2.1 (h.2.1 70 6).toInt) ∧ (CKF h.2.1 → CKF h'.2.1)) 0 0 [(0, .ref 70)] [] h
  obtain ⟨S, hS⟩ : ∃ S : Int, S = (h.2.1 70 6).toInt := ⟨_, rfl⟩
  have S0 : 0 ≤ S := by rw [hS]; exact (hv.2.1 70 6).1
  have S1 : S ≤ 1 := by rw [hS]; exact (hv.2.1 70 6).2
  have oh : OH h.2.1 h.2.1 S := OH.rfl _ _
  have ck : CKF h.2.1 → CKF h.2.1 := id
  rw [← hS] at hr
  have key : ∀ n : Nat, (∀ (l1 : Int32) (Qx : PP) (hx : HP), Iv Qx hx → MW P Qx → 0 ≤ l1.toInt → l1.toInt ≤ 40 → (KX 94 h.2.1 hx.2.1) → (WJ h.2.1 hx.2.1 S l1.toInt) → OH h.2.1 hx.2.1 S → (CKF h.2.1 → CKF hx.2.1) → (5 * (40 - l1.toInt) + 25 : Int) < n → Go l RX8 cX8_laysWays 5 (g_rm (d + 541) 0 0) "laysWays" none 117 0 0 (fun _ _ => True) (fun r h' => r = none ∧ (∃ Q : PP, Iv Q h' ∧ MW P Q) ∧ (KX 94 h.2.1 h'.2.1) ∧ (WJ h.2.1 h'.2.1 (h.2.1 70 6).toInt (V h.2.1 75 (h.2.1 70 6).toInt)) ∧ (OH h.2.1 h'.2.1 (h.2.1 70 6).toInt) ∧ (CKF h.2.1 → CKF h'.2.1)) 0 2 [(0, .ref 70), (1, .int l1)] [] hx) ∧ (∀ (l1 : Int32) (l2 : Int32) (l3 : Int32) (l4 : Int32) (Qx : PP) (hx : HP), Iv Qx hx → MW P Qx → 0 ≤ l1.toInt → l1.toInt ≤ 39 → 0 ≤ l2.toInt → l2.toInt ≤ 127 → 0 ≤ l3.toInt → l3.toInt ≤ 259 → -1 ≤ l4.toInt → l4.toInt ≤ 259 → (KX 94 h.2.1 hx.2.1) → (l2.toInt = 40 * S + l1.toInt) → (II h.2.1 S l3.toInt) → ((l4.toInt = -1 ∨ (II h.2.1 S l4.toInt ∧ V h.2.1 77 l4.toInt = 6))) → (WJ h.2.1 hx.2.1 S (l1.toInt + 1)) → OH h.2.1 hx.2.1 S → (CKF h.2.1 → CKF hx.2.1) → (5 * (40 - l1.toInt) + 24 : Int) < n → Go l RX8 cX8_laysWays 5 (g_rm (d + 541) 0 0) "laysWays" none 117 0 0 (fun _ _ => True) (fun r h' => r = none ∧ (∃ Q : PP, Iv Q h' ∧ MW P Q) ∧ (KX 94 h.2.1 h'.2.1) ∧ (WJ h.2.1 h'.2.1 (h.2.1 70 6).toInt (V h.2.1 75 (h.2.1 70 6).toInt)) ∧ (OH h.2.1 h'.2.1 (h.2.1 70 6).toInt) ∧ (CKF h.2.1 → CKF h'.2.1)) 0 81 [(0, .ref 70), (1, .int l1), (2, .int l2), (3, .int l3), (4, .int l4)] [] hx) ∧ (∀ (l1 : Int32) (l2 : Int32) (l4 : Int32) (Qx : PP) (hx : HP), Iv Qx hx → MW P Qx → 0 ≤ l1.toInt → l1.toInt ≤ 39 → 0 ≤ l2.toInt → l2.toInt ≤ 127 → -1 ≤ l4.toInt → l4.toInt ≤ 259 → (KX 94 h.2.1 hx.2.1) → (l2.toInt = 40 * S + l1.toInt) → ((l4.toInt = -1 ∨ (II h.2.1 S l4.toInt ∧ V h.2.1 77 l4.toInt = 6))) → (WJ h.2.1 hx.2.1 S (l1.toInt + 1)) → OH h.2.1 hx.2.1 S → (CKF h.2.1 → CKF hx.2.1) → (5 * (40 - l1.toInt) + 23 : Int) < n → Go l RX8 cX8_laysWays 5 (g_rm (d + 541) 0 0) "laysWays" none 117 0 0 (fun _ _ => True) (fun r h' => r = none ∧ (∃ Q : PP, Iv Q h' ∧ MW P Q) ∧ (KX 94 h.2.1 h'.2.1) ∧ (WJ h.2.1 h'.2.1 (h.2.1 70 6).toInt (V h.2.1 75 (h.2.1 70 6).toInt)) ∧ (OH h.2.1 h'.2.1 (h.2.1 70 6).toInt) ∧ (CKF h.2.1 → CKF h'.2.1)) 0 116 [(0, .ref 70), (1, .int l1), (2, .int l2), (4, .int l4)] [] hx) ∧ (∀ (l1 : Int32) (Qx : PP) (hx : HP), Iv Qx hx → MW P Qx → 0 ≤ l1.toInt → l1.toInt ≤ 5 → (KX 94 h.2.1 hx.2.1) → (WJ h.2.1 hx.2.1 S (V h.2.1 75 S)) → OH h.2.1 hx.2.1 S → (CKF h.2.1 → CKF hx.2.1) → (3 * (5 - l1.toInt) + 2 : Int) < n → Go l RX8 cX8_laysWays 5 (g_rm (d + 541) 0 0) "laysWays" none 117 0 0 (fun _ _ => True) (fun r h' => r = none ∧ (∃ Q : PP, Iv Q h' ∧ MW P Q) ∧ (KX 94 h.2.1 h'.2.1) ∧ (WJ h.2.1 h'.2.1 (h.2.1 70 6).toInt (V h.2.1 75 (h.2.1 70 6).toInt)) ∧ (OH h.2.1 h'.2.1 (h.2.1 70 6).toInt) ∧ (CKF h.2.1 → CKF h'.2.1)) 0 174 [(0, .ref 70), (1, .int l1)] [] hx) := by
    intro n
    induction n with
    | zero => exact ⟨(by intros; omega), (by intros; omega), (by intros; omega), (by intros; omega)⟩
    | succ n ih =>
      refine ⟨?_, ?_, ?_, ?_⟩
      ·
        intro l1 Qx hx hvx sqx l1l l1u x0 x1 ohx ckx hm
        have xkx := x0
        have rdx : RD hx.2.1 S := RD.kx x0 (by omega) hr
        refine go_iload_n (pc := 2) rfl dX8_laysWays_2 ?_
        refine go_aload_n (pc := 3) rfl dX8_laysWays_3 ?_
        refine gi_getF (pc := 4) (q := 75) hvx fL_X8_23 rfl (Nat.le_of_ble_eq_true rfl) rfl (hvx.rf (by decide)) dX8_laysWays_4 ?_
        refine go_aload_n (pc := 7) rfl dX8_laysWays_7 ?_
        refine gi_get (pc := 8) (lo := 0) (hi := 1) hvx fL_X8_187 rfl (Nat.le_of_ble_eq_true rfl) rfl rfl dX8_laysWays_8 (fun v1 v1l v1u v1w => ?_)
        have v1S : v1.toInt = S := by rw [v1w]; exact (congrArg Int32.toInt ohx.side).trans hS.symm
        refine gi_iald (pc := 11) (lo := 0) (hi := 40) (len := 2) hvx (ti_rfl v1) rfl (by omega) (by omega) (fun _ => rfl) dX8_laysWays_11 (fun v2 v2l v2u v2w => ?_)
        have v2V : v2.toInt = V hx.2.1 75 S := by rw [v2w, v1S]; rfl
        refine gf_icmp_ge (pc := 12) (tgt := 172) (ti_rfl l1) (ti_rfl v2) (by decide) dX8_laysWays_12 (fun q3 => ?_) (fun q3 => ?_)
        ·
          refine go_iconst (pc := 172) (v := 0) (by decide) dX8_laysWays_172 ?_
          refine go_istore_n (pc := 173) (Nat.le_of_ble_eq_true rfl) dX8_laysWays_173 (go_lv (lv2 := [(0, .ref 70), (1, .int 0)]) rfl ?_)
          have z4 : (0 : Int32).toInt = 0 := (ti_c (v := 0) (a := 0) (by decide))
          exact go_lv rfl (ih.2.2.2 0 _ hx hvx sqx (by omega) (by omega) xkx (fun k a b => x1 k a (by have e := xkx.v (c := 75) (i := S) (by omega) (by omega); omega)) ohx ckx (by omega))
        ·
          refine go_bipush (pc := 15) (v := 40) (by decide) dX8_laysWays_15 ?_
          refine go_aload_n (pc := 17) rfl dX8_laysWays_17 ?_
          refine gi_get (pc := 18) (lo := 0) (hi := 1) hvx fL_X8_187 rfl (Nat.le_of_ble_eq_true rfl) rfl rfl dX8_laysWays_18 (fun v5 v5l v5u v5w => ?_)
          have v5r : v1 = hx.2.1 70 6 := v1w
          have v5q : TI v5 v1.toInt := by rw [v5w.trans v5r.symm]; exact (ti_rfl v1)
          refine gf_imul (pc := 21) (ti_c (v := 40) (a := 40) (by decide)) v5q (by omega) (by omega) dX8_laysWays_21 (fun v6 e7 => ?_)
          refine go_iload_n (pc := 22) rfl dX8_laysWays_22 ?_
          refine gf_iadd (pc := 23) e7 (ti_rfl l1) (by omega) (by omega) dX8_laysWays_23 (fun v8 e9 => ?_)
          refine go_istore_n (pc := 24) (Nat.le_of_ble_eq_true rfl) dX8_laysWays_24 (go_lv (lv2 := [(0, .ref 70), (1, .int l1), (2, .int v8)]) rfl ?_)
          refine go_aload_n (pc := 25) rfl dX8_laysWays_25 ?_
          refine gi_getF (pc := 26) (q := 93) hvx fL_X8_77 rfl (Nat.le_of_ble_eq_true rfl) rfl (hvx.rf (by decide)) dX8_laysWays_26 ?_
          refine go_iload_n (pc := 29) rfl dX8_laysWays_29 ?_
          refine gi_iald (pc := 30) (lo := 0) (hi := 259) (len := 80) hvx e9 rfl (by omega) (by omega) (fun _ => rfl) dX8_laysWays_30 (fun v10 v10l v10u v10w => ?_)
          have v10V : v10.toInt = V hx.2.1 93 (((40 * S) + l1.toInt)) := by rw [v10w, v1S]; rfl
          have ii : II h.2.1 S v10.toInt := (II.kx xkx (by omega)).mp (by rw [v10V]; exact rdx.1.2.2.2.2.2.2 l1.toInt (by omega) (by omega))
          have iE : v10.toInt = V h.2.1 93 (40 * S + l1.toInt) := by rw [v10V, xkx.v (c := 93) (by omega) (by omega)]
          refine go_istore_n (pc := 31) (Nat.le_of_ble_eq_true rfl) dX8_laysWays_31 (go_lv (lv2 := [(0, .ref 70), (1, .int l1), (2, .int v8), (3, .int v10)]) rfl ?_)
          refine go_aload_n (pc := 32) rfl dX8_laysWays_32 ?_
          refine go_iload_n (pc := 33) rfl dX8_laysWays_33 ?_
          have sM11 : (hx.2.1 70 6).toInt = S := (congrArg Int32.toInt ohx.side).trans hS.symm
          refine go_invV (pc := 34) (sl := 0) (s_X8_tryOf l (d + 539) hvx v10 (by rw [show (v10 : Int32).toInt = v10.toInt from (ti_rfl v10)]; omega) (by rw [show (v10 : Int32).toInt = v10.toInt from (ti_rfl v10)]; omega) (by rw [sM11]; exact ⟨rdx.1, rdx.2.1⟩) (by rw [sM11]; exact ((II.kx xkx (by omega)).mpr ii))) mL_X8_265 iM_X8_tryOf sM_X8_tryOf (hvx.sh rfl) rfl rfl rfl (Nat.le_of_ble_eq_true rfl) (show d + 539 + 1 + 1 ≤ d + 541 by omega) (show 8 + (4 + 11) + 40 * (d + 539 + 1) ≤ 40 * (d + 541) by omega) (g_c0 hvx.ln) (Nat.le_of_ble_eq_true rfl) dX8_laysWays_34 ?_
          intro r h12 hq _
          obtain ⟨v14, rfl, v14l, v14u, rfl, f13⟩ := hq
          rw [sM11] at f13
          refine go_istore (pc := 37) (Nat.le_of_ble_eq_true rfl) dX8_laysWays_37 (go_lv (lv2 := [(0, .ref 70), (1, .int l1), (2, .int v8), (3, .int v10), (4, .int v14)]) rfl ?_)
          refine go_aload_n (pc := 39) rfl dX8_laysWays_39 ?_
          refine gi_getF (pc := 40) (q := 95) hvx fL_X8_83 rfl (Nat.le_of_ble_eq_true rfl) rfl (hvx.rf (by decide)) dX8_laysWays_40 ?_
          refine go_iload_n (pc := 43) rfl dX8_laysWays_43 ?_
          refine go_aload_n (pc := 44) rfl dX8_laysWays_44 ?_
          refine go_iload_n (pc := 45) rfl dX8_laysWays_45 ?_
          have ty : v14.toInt = -1 ∨ (II h.2.1 S v14.toInt ∧ V h.2.1 77 v14.toInt = 6) := by rcases f13 with z | z; (exact Or.inl z); (exact Or.inr ⟨(II.kx xkx (by omega)).mp z.1, by rw [← xkx.v (c := 77) (by omega) (by omega)]; exact z.2⟩)
          have sM15 : (hx.2.1 70 6).toInt = S := (congrArg Int32.toInt ohx.side).trans hS.symm
          refine go_invV (pc := 46) (sl := 0) (s_X8_behind l (d + 0) hvx v10 (by rw [show (v10 : Int32).toInt = v10.toInt from (ti_rfl v10)]; omega) (by rw [show (v10 : Int32).toInt = v10.toInt from (ti_rfl v10)]; omega) (by rw [sM15]; exact ⟨rdx.1, rdx.2.1⟩) (by rw [sM15]; exact ((II.kx xkx (by omega)).mpr ii))) mL_X8_262 iM_X8_behind sM_X8_behind (hvx.sh rfl) rfl rfl rfl (Nat.le_of_ble_eq_true rfl) (show d + 0 + 540 + 1 ≤ d + 541 by omega) (show 8 + (2 + 11) + 40 * (d + 0 + 540) ≤ 40 * (d + 541) by omega) (g_c0 hvx.ln) (Nat.le_of_ble_eq_true rfl) dX8_laysWays_46 ?_
          intro r h16 hq _
          obtain ⟨v18, rfl, v18l, v18u, rfl, f17⟩ := hq
          rw [sM15] at f17
          refine gi_fst (pc := 49) (lo := -1) (hi := 39) (len := 80) hvx e9 (ti_rfl v18) rfl (by omega) (by omega) (fun _ => rfl) (by omega) (by omega) (by omega) dX8_laysWays_49 (fun h19 hv19 hv19e => ?_)
          refine go_aload_n (pc := 50) rfl dX8_laysWays_50 ?_
          refine gi_getF (pc := 51) (q := 96) hv19 fL_X8_86 rfl (Nat.le_of_ble_eq_true rfl) rfl (hv19.rf (by decide)) dX8_laysWays_51 ?_
          refine go_iload_n (pc := 54) rfl dX8_laysWays_54 ?_
          refine go_aload_n (pc := 55) rfl dX8_laysWays_55 ?_
          refine gi_getF (pc := 56) (q := 85) hv19 fL_X8_53 rfl (Nat.le_of_ble_eq_true rfl) rfl (hv19.rf (by decide)) dX8_laysWays_56 ?_
          refine go_iload_n (pc := 59) rfl dX8_laysWays_59 ?_
          have E19 : h19.2.1 = (w1 hx.2.1 95 (((40 * S) + l1.toInt)) (v18 : Int32)) := by
            rw [hv19e]
            rw [v1S]
            rfl
          have oh19 : OH h.2.1 h19.2.1 S := by rw [E19]; exact (ohx.trans (OH.w 40 rfl (by omega) (by omega) (by omega) (by omega)))
          have n73_19 : V h19.2.1 73 S = V hx.2.1 73 S := by rw [E19, V_ne (by omega)]
          have n74_19 : V h19.2.1 74 S = V hx.2.1 74 S := by rw [E19, V_ne (by omega)]
          have n75_19 : V h19.2.1 75 S = V hx.2.1 75 S := by rw [E19, V_ne (by omega)]
          have ck19 : CKF h.2.1 → CKF h19.2.1 := fun z => by rw [E19]; exact (CKF.w (by omega) (ckx z))
          refine gi_iald (pc := 60) (lo := -1) (hi := 559) (len := 260) hv19 (ti_rfl v10) rfl (by omega) (by omega) (fun _ => rfl) dX8_laysWays_60 (fun v20 v20l v20u v20w => ?_)
          have v20V : v20.toInt = V h19.2.1 85 v10.toInt := by rw [v20w]; rfl
          refine go_iconst (pc := 61) (v := (-1)) (by decide) dX8_laysWays_61 ?_
          refine gf_icmp_ne (pc := 62) (tgt := 70) (ti_rfl v20) (ti_c (v := (-1)) (a := (-1)) (by decide)) (by decide) dX8_laysWays_62 (fun q21 => ?_) (fun q21 => ?_)
          ·
            refine go_aload_n (pc := 70) rfl dX8_laysWays_70 ?_
            refine go_aload_n (pc := 71) rfl dX8_laysWays_71 ?_
            refine gi_getF (pc := 72) (q := 85) hv19 fL_X8_53 rfl (Nat.le_of_ble_eq_true rfl) rfl (hv19.rf (by decide)) dX8_laysWays_72 ?_
            refine go_iload_n (pc := 75) rfl dX8_laysWays_75 ?_
            refine gi_iald (pc := 76) (lo := -1) (hi := 559) (len := 260) hv19 (ti_rfl v10) rfl (by omega) (by omega) (fun _ => rfl) dX8_laysWays_76 (fun v22 v22l v22u v22w => ?_)
            have v22V : v22.toInt = V h19.2.1 85 v10.toInt := by rw [v22w]; rfl
            have kx23 : KX 94 h.2.1 h19.2.1 := (xkx.trans (show KX 94 hx.2.1 h19.2.1 from by rw [E19]; exact ((KX.rfl 94 _).trans (KX.w (by omega)))))
            have rd24 : RD h19.2.1 S := RD.kx kx23 (by omega) hr
            rcases (rd24.1.2.2.2.2.1 v10.toInt ((II.kx kx23 (by omega)).mpr ii)).1 with t4 | t4
            · exact False.elim (by omega)
            have sM25 : (h19.2.1 70 6).toInt = S := (congrArg Int32.toInt oh19.side).trans hS.symm
            refine go_invV (pc := 77) (sl := 0) (s_X8_firstOf l (d + 0) hv19 v22 (by rw [show (v22 : Int32).toInt = v22.toInt from (ti_rfl v22)]; omega) (by rw [show (v22 : Int32).toInt = v22.toInt from (ti_rfl v22)]; omega) (by rw [sM25]; exact ⟨rd24.1, rd24.2.1⟩) (by rw [sM25]; exact (by rw [v22V]; exact t4.1))) mL_X8_253 iM_X8_firstOf sM_X8_firstOf (hv19.sh rfl) rfl rfl rfl (Nat.le_of_ble_eq_true rfl) (show d + 0 + 540 + 1 ≤ d + 541 by omega) (show 8 + (2 + 11) + 40 * (d + 0 + 540) ≤ 40 * (d + 541) by omega) (g_c0 hv19.ln) (Nat.le_of_ble_eq_true rfl) dX8_laysWays_77 ?_
            intro r h26 hq _
            obtain ⟨v28, rfl, v28l, v28u, rfl, f27⟩ := hq
            rw [sM25] at f27
            refine gi_fst (pc := 80) (lo := -2) (hi := 39) (len := 80) hv19 e9 (ti_rfl v28) rfl (by omega) (by omega) (fun _ => rfl) (by omega) (by omega) (by omega) dX8_laysWays_80 (fun h29 hv29 hv29e => ?_)
            have E29 : h29.2.1 = (w1 h19.2.1 96 (((40 * S) + l1.toInt)) (v28 : Int32)) := by
              rw [hv29e]
              rw [v1S]
              rfl
            have oh29 : OH h.2.1 h29.2.1 S := by rw [E29]; exact (oh19.trans (OH.w 40 rfl (by omega) (by omega) (by omega) (by omega)))
            have n73_29 : V h29.2.1 73 S = V h19.2.1 73 S := by rw [E29, V_ne (by omega)]
            have n74_29 : V h29.2.1 74 S = V h19.2.1 74 S := by rw [E29, V_ne (by omega)]
            have n75_29 : V h29.2.1 75 S = V h19.2.1 75 S := by rw [E29, V_ne (by omega)]
            have ck29 : CKF h.2.1 → CKF h29.2.1 := fun z => by rw [E29]; exact (CKF.w (by omega) (ck19 z))
            have z30 : (v8 : Int32).toInt = ((40 * v1.toInt) + l1.toInt) := e9
            exact go_lv rfl (ih.2.1 l1 v8 v10 v14 _ h29 hv29 (MW.trans (MW.trans sqx (MW.mz _ _)) (MW.mz _ _)) (by omega) (by omega) (by omega) (by omega) (by omega) (by omega) (by omega) (by omega) ((xkx.trans (show KX 94 hx.2.1 h19.2.1 from by rw [E19]; exact ((KX.rfl 94 _).trans (KX.w (by omega))))).trans (show KX 94 h19.2.1 h29.2.1 from by rw [E29]; exact ((KX.rfl 94 _).trans (KX.w (by omega))))) (by omega) ii ty (show WJ h.2.1 h29.2.1 S (l1.toInt + 1) from by rw [E29]; exact (WJ.put S0 (by omega) (show WJ h.2.1 h19.2.1 S l1.toInt from by rw [E19]; exact (WJ.same x1 (by omega))) (fun _ => by omega))) oh29 ck29 (by omega))
          ·
            refine go_bipush (pc := 65) (v := (-2)) (by decide) dX8_laysWays_65 ?_
            refine go_goto (pc := 67) (tgt := 80) (by decide) dX8_laysWays_67 ?_
            have kx31 : KX 94 h.2.1 h19.2.1 := (xkx.trans (show KX 94 hx.2.1 h19.2.1 from by rw [E19]; exact ((KX.rfl 94 _).trans (KX.w (by omega)))))
            have rd32 : RD h19.2.1 S := RD.kx kx31 (by omega) hr
            have nk : ¬ (V h.2.1 77 v10.toInt = 2 ∨ V h.2.1 77 v10.toInt = 3) := fun q => by have c := (hr.2.1 v10.toInt ii.1 ii.2).2.2 q; have e := kx31.v (c := 85) (i := v10.toInt) (by omega) (by omega); omega
            refine gi_fst (pc := 80) (lo := -2) (hi := 39) (len := 80) hv19 e9 (ti_c (v := (-2)) (a := (-2)) (by decide)) rfl (by omega) (by omega) (fun _ => rfl) (by omega) (by omega) (by omega) dX8_laysWays_80 (fun h33 hv33 hv33e => ?_)
            have E33 : h33.2.1 = (w1 h19.2.1 96 (((40 * S) + l1.toInt)) ((-2) : Int32)) := by
              rw [hv33e]
              rw [v1S]
              rfl
            have oh33 : OH h.2.1 h33.2.1 S := by rw [E33]; exact (oh19.trans (OH.w 40 rfl (by omega) (by omega) (by omega) (by omega)))
            have n73_33 : V h33.2.1 73 S = V h19.2.1 73 S := by rw [E33, V_ne (by omega)]
            have n74_33 : V h33.2.1 74 S = V h19.2.1 74 S := by rw [E33, V_ne (by omega)]
            have n75_33 : V h33.2.1 75 S = V h19.2.1 75 S := by rw [E33, V_ne (by omega)]
            have ck33 : CKF h.2.1 → CKF h33.2.1 := fun z => by rw [E33]; exact (CKF.w (by omega) (ck19 z))
            have z34 : (v8 : Int32).toInt = ((40 * v1.toInt) + l1.toInt) := e9
            exact go_lv rfl (ih.2.1 l1 v8 v10 v14 _ h33 hv33 (MW.trans (MW.trans sqx (MW.mz _ _)) (MW.mz _ _)) (by omega) (by omega) (by omega) (by omega) (by omega) (by omega) (by omega) (by omega) ((xkx.trans (show KX 94 hx.2.1 h19.2.1 from by rw [E19]; exact ((KX.rfl 94 _).trans (KX.w (by omega))))).trans (show KX 94 h19.2.1 h33.2.1 from by rw [E33]; exact ((KX.rfl 94 _).trans (KX.w (by omega))))) (by omega) ii ty (show WJ h.2.1 h33.2.1 S (l1.toInt + 1) from by rw [E33]; exact (WJ.put S0 (by omega) (show WJ h.2.1 h19.2.1 S l1.toInt from by rw [E19]; exact (WJ.same x1 (by omega))) (fun q => absurd (by rw [← iE] at q; exact q) nk))) oh33 ck33 (by omega))
      ·
        intro l1 l2 l3 l4 Qx hx hvx sqx l1l l1u l2l l2u l3l l3u l4l l4u x0 x1 x2 x3 x4 ohx ckx hm
        have xkx := x0
        have rdx : RD hx.2.1 S := RD.kx x0 (by omega) hr
        refine go_aload_n (pc := 81) rfl dX8_laysWays_81 ?_
        refine gi_getF (pc := 82) (q := 97) hvx fL_X8_89 rfl (Nat.le_of_ble_eq_true rfl) rfl (hvx.rf (by decide)) dX8_laysWays_82 ?_
        refine go_iload_n (pc := 85) rfl dX8_laysWays_85 ?_
        refine go_aload_n (pc := 86) rfl dX8_laysWays_86 ?_
        refine gi_getF (pc := 87) (q := 86) hvx fL_X8_56 rfl (Nat.le_of_ble_eq_true rfl) rfl (hvx.rf (by decide)) dX8_laysWays_87 ?_
        refine go_iload_n (pc := 90) rfl dX8_laysWays_90 ?_
        refine gi_iald (pc := 91) (lo := -1) (hi := 559) (len := 260) hvx (ti_rfl l3) rfl (by omega) (by omega) (fun _ => rfl) dX8_laysWays_91 (fun v35 v35l v35u v35w => ?_)
        have v35V : v35.toInt = V hx.2.1 86 l3.toInt := by rw [v35w]; rfl
        refine go_iconst (pc := 92) (v := (-1)) (by decide) dX8_laysWays_92 ?_
        refine gf_icmp_ne (pc := 93) (tgt := 105) (ti_rfl v35) (ti_c (v := (-1)) (a := (-1)) (by decide)) (by decide) dX8_laysWays_93 (fun q36 => ?_) (fun q36 => ?_)
        ·
          refine go_aload_n (pc := 105) rfl dX8_laysWays_105 ?_
          refine go_aload_n (pc := 106) rfl dX8_laysWays_106 ?_
          refine gi_getF (pc := 107) (q := 86) hvx fL_X8_56 rfl (Nat.le_of_ble_eq_true rfl) rfl (hvx.rf (by decide)) dX8_laysWays_107 ?_
          refine go_iload_n (pc := 110) rfl dX8_laysWays_110 ?_
          refine gi_iald (pc := 111) (lo := -1) (hi := 559) (len := 260) hvx (ti_rfl l3) rfl (by omega) (by omega) (fun _ => rfl) dX8_laysWays_111 (fun v37 v37l v37u v37w => ?_)
          have v37V : v37.toInt = V hx.2.1 86 l3.toInt := by rw [v37w]; rfl
          have kx38 : KX 94 h.2.1 hx.2.1 := xkx
          have rd39 : RD hx.2.1 S := RD.kx kx38 (by omega) hr
          rcases (rd39.1.2.2.2.2.1 l3.toInt ((II.kx kx38 (by omega)).mpr x2)).2 with t4 | t4
          · exact False.elim (by omega)
          have sM40 : (hx.2.1 70 6).toInt = S := (congrArg Int32.toInt ohx.side).trans hS.symm
          refine go_invV (pc := 112) (sl := 0) (s_X8_firstOf l (d + 0) hvx v37 (by rw [show (v37 : Int32).toInt = v37.toInt from (ti_rfl v37)]; omega) (by rw [show (v37 : Int32).toInt = v37.toInt from (ti_rfl v37)]; omega) (by rw [sM40]; exact ⟨rd39.1, rd39.2.1⟩) (by rw [sM40]; exact (by rw [v37V]; exact t4.1))) mL_X8_253 iM_X8_firstOf sM_X8_firstOf (hvx.sh rfl) rfl rfl rfl (Nat.le_of_ble_eq_true rfl) (show d + 0 + 540 + 1 ≤ d + 541 by omega) (show 8 + (2 + 11) + 40 * (d + 0 + 540) ≤ 40 * (d + 541) by omega) (g_c0 hvx.ln) (Nat.le_of_ble_eq_true rfl) dX8_laysWays_112 ?_
          intro r h41 hq _
          obtain ⟨v43, rfl, v43l, v43u, rfl, f42⟩ := hq
          rw [sM40] at f42
          refine gi_fst (pc := 115) (lo := -1) (hi := 39) (len := 80) hvx (ti_rfl l2) (ti_rfl v43) rfl (by omega) (by omega) (fun _ => rfl) (by omega) (by omega) (by omega) dX8_laysWays_115 (fun h44 hv44 hv44e => ?_)
          have E44 : h44.2.1 = (w1 hx.2.1 97 l2.toInt (v43 : Int32)) := by
            rw [hv44e]
            rfl
          have oh44 : OH h.2.1 h44.2.1 S := by rw [E44]; exact (ohx.trans (OH.w 40 rfl (by omega) (by omega) (by omega) (by omega)))
          have n73_44 : V h44.2.1 73 S = V hx.2.1 73 S := by rw [E44, V_ne (by omega)]
          have n74_44 : V h44.2.1 74 S = V hx.2.1 74 S := by rw [E44, V_ne (by omega)]
          have n75_44 : V h44.2.1 75 S = V hx.2.1 75 S := by rw [E44, V_ne (by omega)]
          have ck44 : CKF h.2.1 → CKF h44.2.1 := fun z => by rw [E44]; exact (CKF.w (by omega) (ckx z))
          exact go_lv rfl (ih.2.2.1 l1 l2 l4 _ h44 hv44 (MW.trans sqx (MW.mz _ _)) (by omega) (by omega) (by omega) (by omega) (by omega) (by omega) (xkx.trans (show KX 94 hx.2.1 h44.2.1 from by rw [E44]; exact ((KX.rfl 94 _).trans (KX.w (by omega))))) (by omega) x3 (show WJ h.2.1 h44.2.1 S (l1.toInt + 1) from by rw [E44]; exact (WJ.same x4 (by omega))) oh44 ck44 (by omega))
        ·
          refine go_aload_n (pc := 96) rfl dX8_laysWays_96 ?_
          refine gi_getF (pc := 97) (q := 95) hvx fL_X8_83 rfl (Nat.le_of_ble_eq_true rfl) rfl (hvx.rf (by decide)) dX8_laysWays_97 ?_
          refine go_iload_n (pc := 100) rfl dX8_laysWays_100 ?_
          refine gi_iald (pc := 101) (lo := -1) (hi := 39) (len := 80) hvx (ti_rfl l2) rfl (by omega) (by omega) (fun _ => rfl) dX8_laysWays_101 (fun v45 v45l v45u v45w => ?_)
          have v45V : v45.toInt = V hx.2.1 95 l2.toInt := by rw [v45w]; rfl
          refine go_goto (pc := 102) (tgt := 115) (by decide) dX8_laysWays_102 ?_
          refine gi_fst (pc := 115) (lo := -1) (hi := 39) (len := 80) hvx (ti_rfl l2) (ti_rfl v45) rfl (by omega) (by omega) (fun _ => rfl) (by omega) (by omega) (by omega) dX8_laysWays_115 (fun h46 hv46 hv46e => ?_)
          have E46 : h46.2.1 = (w1 hx.2.1 97 l2.toInt (v45 : Int32)) := by
            rw [hv46e]
            rfl
          have oh46 : OH h.2.1 h46.2.1 S := by rw [E46]; exact (ohx.trans (OH.w 40 rfl (by omega) (by omega) (by omega) (by omega)))
          have n73_46 : V h46.2.1 73 S = V hx.2.1 73 S := by rw [E46, V_ne (by omega)]
          have n74_46 : V h46.2.1 74 S = V hx.2.1 74 S := by rw [E46, V_ne (by omega)]
          have n75_46 : V h46.2.1 75 S = V hx.2.1 75 S := by rw [E46, V_ne (by omega)]
          have ck46 : CKF h.2.1 → CKF h46.2.1 := fun z => by rw [E46]; exact (CKF.w (by omega) (ckx z))
          exact go_lv rfl (ih.2.2.1 l1 l2 l4 _ h46 hv46 (MW.trans sqx (MW.mz _ _)) (by omega) (by omega) (by omega) (by omega) (by omega) (by omega) (xkx.trans (show KX 94 hx.2.1 h46.2.1 from by rw [E46]; exact ((KX.rfl 94 _).trans (KX.w (by omega))))) (by omega) x3 (show WJ h.2.1 h46.2.1 S (l1.toInt + 1) from by rw [E46]; exact (WJ.same x4 (by omega))) oh46 ck46 (by omega))
      ·
        intro l1 l2 l4 Qx hx hvx sqx l1l l1u l2l l2u l4l l4u x0 x1 x2 x3 ohx ckx hm
        have xkx := x0
        have rdx : RD hx.2.1 S := RD.kx x0 (by omega) hr
        refine go_aload_n (pc := 116) rfl dX8_laysWays_116 ?_
        refine gi_getF (pc := 117) (q := 98) hvx fL_X8_92 rfl (Nat.le_of_ble_eq_true rfl) rfl (hvx.rf (by decide)) dX8_laysWays_117 ?_
        refine go_iload_n (pc := 120) rfl dX8_laysWays_120 ?_
        refine go_iload (pc := 121) rfl dX8_laysWays_121 ?_
        refine go_iconst (pc := 123) (v := (-1)) (by decide) dX8_laysWays_123 ?_
        refine gf_icmp_ne (pc := 124) (tgt := 131) (ti_rfl l4) (ti_c (v := (-1)) (a := (-1)) (by decide)) (by decide) dX8_laysWays_124 (fun q47 => ?_) (fun q47 => ?_)
        ·
          refine go_aload_n (pc := 131) rfl dX8_laysWays_131 ?_
          refine go_aload_n (pc := 132) rfl dX8_laysWays_132 ?_
          refine gi_getF (pc := 133) (q := 86) hvx fL_X8_56 rfl (Nat.le_of_ble_eq_true rfl) rfl (hvx.rf (by decide)) dX8_laysWays_133 ?_
          refine go_iload (pc := 136) rfl dX8_laysWays_136 ?_
          refine gi_iald (pc := 138) (lo := -1) (hi := 559) (len := 260) hvx (ti_rfl l4) rfl (by omega) (by omega) (fun _ => rfl) dX8_laysWays_138 (fun v48 v48l v48u v48w => ?_)
          have v48V : v48.toInt = V hx.2.1 86 l4.toInt := by rw [v48w]; rfl
          have kx49 : KX 94 h.2.1 hx.2.1 := xkx
          have rd50 : RD hx.2.1 S := RD.kx kx49 (by omega) hr
          have ty2q := x2
          rcases ty2q with ty2 | ty2
          · exact False.elim (by omega)
          have ti2 : II hx.2.1 S l4.toInt := (II.kx kx49 (by omega)).mpr ty2.1
          have cc := (rd50.2.1 l4.toInt ti2.1 ti2.2).2.1 (by rw [kx49.v (c := 77) (by omega) (by omega)]; exact ty2.2)
          rcases (rd50.1.2.2.2.2.1 l4.toInt ti2).2 with t4 | t4
          · exact False.elim (by omega)
          have sM51 : (hx.2.1 70 6).toInt = S := (congrArg Int32.toInt ohx.side).trans hS.symm
          refine go_invV (pc := 139) (sl := 0) (s_X8_firstOf l (d + 0) hvx v48 (by rw [show (v48 : Int32).toInt = v48.toInt from (ti_rfl v48)]; omega) (by rw [show (v48 : Int32).toInt = v48.toInt from (ti_rfl v48)]; omega) (by rw [sM51]; exact ⟨rd50.1, rd50.2.1⟩) (by rw [sM51]; exact (by rw [v48V]; exact t4.1))) mL_X8_253 iM_X8_firstOf sM_X8_firstOf (hvx.sh rfl) rfl rfl rfl (Nat.le_of_ble_eq_true rfl) (show d + 0 + 540 + 1 ≤ d + 541 by omega) (show 8 + (2 + 11) + 40 * (d + 0 + 540) ≤ 40 * (d + 541) by omega) (g_c0 hvx.ln) (Nat.le_of_ble_eq_true rfl) dX8_laysWays_139 ?_
          intro r h52 hq _
          obtain ⟨v54, rfl, v54l, v54u, rfl, f53⟩ := hq
          rw [sM51] at f53
          refine gi_fst (pc := 142) (lo := -1) (hi := 39) (len := 80) hvx (ti_rfl l2) (ti_rfl v54) rfl (by omega) (by omega) (fun _ => rfl) (by omega) (by omega) (by omega) dX8_laysWays_142 (fun h55 hv55 hv55e => ?_)
          refine go_aload_n (pc := 143) rfl dX8_laysWays_143 ?_
          refine gi_getF (pc := 144) (q := 99) hv55 fL_X8_95 rfl (Nat.le_of_ble_eq_true rfl) rfl (hv55.rf (by decide)) dX8_laysWays_144 ?_
          refine go_iload_n (pc := 147) rfl dX8_laysWays_147 ?_
          refine go_iload (pc := 148) rfl dX8_laysWays_148 ?_
          refine go_iconst (pc := 150) (v := (-1)) (by decide) dX8_laysWays_150 ?_
          have E55 : h55.2.1 = (w1 hx.2.1 98 l2.toInt (v54 : Int32)) := by
            rw [hv55e]
            rfl
          have oh55 : OH h.2.1 h55.2.1 S := by rw [E55]; exact (ohx.trans (OH.w 40 rfl (by omega) (by omega) (by omega) (by omega)))
          have n73_55 : V h55.2.1 73 S = V hx.2.1 73 S := by rw [E55, V_ne (by omega)]
          have n74_55 : V h55.2.1 74 S = V hx.2.1 74 S := by rw [E55, V_ne (by omega)]
          have n75_55 : V h55.2.1 75 S = V hx.2.1 75 S := by rw [E55, V_ne (by omega)]
          have ck55 : CKF h.2.1 → CKF h55.2.1 := fun z => by rw [E55]; exact (CKF.w (by omega) (ckx z))
          refine gf_icmp_ne (pc := 151) (tgt := 158) (ti_rfl l4) (ti_c (v := (-1)) (a := (-1)) (by decide)) (by decide) dX8_laysWays_151 (fun q56 => ?_) (fun q56 => False.elim (by omega))
          refine go_aload_n (pc := 158) rfl dX8_laysWays_158 ?_
          refine gi_getF (pc := 159) (q := 82) hv55 fL_X8_44 rfl (Nat.le_of_ble_eq_true rfl) rfl (hv55.rf (by decide)) dX8_laysWays_159 ?_
          refine go_iload (pc := 162) rfl dX8_laysWays_162 ?_
          refine gi_iald (pc := 164) (lo := -1) (hi := 9) (len := 260) hv55 (ti_rfl l4) rfl (by omega) (by omega) (fun _ => rfl) dX8_laysWays_164 (fun v57 v57l v57u v57w => ?_)
          have v57V : v57.toInt = V h55.2.1 82 l4.toInt := by rw [v57w]; rfl
          have kx58 : KX 94 h.2.1 h55.2.1 := (xkx.trans (show KX 94 hx.2.1 h55.2.1 from by rw [E55]; exact ((KX.rfl 94 _).trans (KX.w (by omega)))))
          have rd59 : RD h55.2.1 S := RD.kx kx58 (by omega) hr
          have k5 : v57.toInt ≤ 5 := by
            have ty3q := x2
            rcases ty3q with ty3 | ty3
            · exact False.elim (by omega)
            have ti3 : II h55.2.1 S l4.toInt := (II.kx kx58 (by omega)).mpr ty3.1
            have cc := (rd59.2.1 l4.toInt ti3.1 ti3.2).2.1 (by rw [kx58.v (c := 77) (by omega) (by omega)]; exact ty3.2)
            omega
          refine gi_fst (pc := 165) (lo := -1) (hi := 5) (len := 80) hv55 (ti_rfl l2) (ti_rfl v57) rfl (by omega) (by omega) (fun _ => rfl) (by omega) (by omega) (by omega) dX8_laysWays_165 (fun h60 hv60 hv60e => ?_)
          refine gf_iinc (pc := 166) (Nat.le_of_ble_eq_true rfl) rfl (ti_rfl l1) (ti_c (by decide)) (by omega) (by omega) dX8_laysWays_166 (fun v61 e62 => ?_)
          refine go_lv (lv2 := [(0, .ref 70), (1, .int v61), (2, .int l2), (4, .int l4)]) rfl ?_
          refine go_goto (pc := 169) (tgt := 2) (by decide) dX8_laysWays_169 ?_
          have E60 : h60.2.1 = (w1 h55.2.1 99 l2.toInt (v57 : Int32)) := by
            rw [hv60e]
            rfl
          have oh60 : OH h.2.1 h60.2.1 S := by rw [E60]; exact (oh55.trans (OH.w 40 rfl (by omega) (by omega) (by omega) (by omega)))
          have n73_60 : V h60.2.1 73 S = V h55.2.1 73 S := by rw [E60, V_ne (by omega)]
          have n74_60 : V h60.2.1 74 S = V h55.2.1 74 S := by rw [E60, V_ne (by omega)]
          have n75_60 : V h60.2.1 75 S = V h55.2.1 75 S := by rw [E60, V_ne (by omega)]
          have ck60 : CKF h.2.1 → CKF h60.2.1 := fun z => by rw [E60]; exact (CKF.w (by omega) (ck55 z))
          have z63 : (v61 : Int32).toInt = (l1.toInt + 1) := e62
          exact go_lv rfl (ih.1 v61 _ h60 hv60 (MW.trans (MW.trans sqx (MW.mz _ _)) (MW.mz _ _)) (by omega) (by omega) ((xkx.trans (show KX 94 hx.2.1 h55.2.1 from by rw [E55]; exact ((KX.rfl 94 _).trans (KX.w (by omega))))).trans (show KX 94 h55.2.1 h60.2.1 from by rw [E60]; exact ((KX.rfl 94 _).trans (KX.w (by omega))))) (by rw [show (v61 : Int32).toInt = l1.toInt + 1 from e62]; exact (show WJ h.2.1 h60.2.1 S (l1.toInt + 1) from by rw [E60]; exact (WJ.same (show WJ h.2.1 h55.2.1 S (l1.toInt + 1) from by rw [E55]; exact (WJ.same x3 (by omega))) (by omega)))) oh60 ck60 (by omega))
        ·
          refine go_iconst (pc := 127) (v := (-1)) (by decide) dX8_laysWays_127 ?_
          refine go_goto (pc := 128) (tgt := 142) (by decide) dX8_laysWays_128 ?_
          refine gi_fst (pc := 142) (lo := -1) (hi := 39) (len := 80) hvx (ti_rfl l2) (ti_c (v := (-1)) (a := (-1)) (by decide)) rfl (by omega) (by omega) (fun _ => rfl) (by omega) (by omega) (by omega) dX8_laysWays_142 (fun h64 hv64 hv64e => ?_)
          refine go_aload_n (pc := 143) rfl dX8_laysWays_143 ?_
          refine gi_getF (pc := 144) (q := 99) hv64 fL_X8_95 rfl (Nat.le_of_ble_eq_true rfl) rfl (hv64.rf (by decide)) dX8_laysWays_144 ?_
          refine go_iload_n (pc := 147) rfl dX8_laysWays_147 ?_
          refine go_iload (pc := 148) rfl dX8_laysWays_148 ?_
          refine go_iconst (pc := 150) (v := (-1)) (by decide) dX8_laysWays_150 ?_
          have E64 : h64.2.1 = (w1 hx.2.1 98 l2.toInt ((-1) : Int32)) := by
            rw [hv64e]
            rfl
          have oh64 : OH h.2.1 h64.2.1 S := by rw [E64]; exact (ohx.trans (OH.w 40 rfl (by omega) (by omega) (by omega) (by omega)))
          have n73_64 : V h64.2.1 73 S = V hx.2.1 73 S := by rw [E64, V_ne (by omega)]
          have n74_64 : V h64.2.1 74 S = V hx.2.1 74 S := by rw [E64, V_ne (by omega)]
          have n75_64 : V h64.2.1 75 S = V hx.2.1 75 S := by rw [E64, V_ne (by omega)]
          have ck64 : CKF h.2.1 → CKF h64.2.1 := fun z => by rw [E64]; exact (CKF.w (by omega) (ckx z))
          refine gf_icmp_ne (pc := 151) (tgt := 158) (ti_rfl l4) (ti_c (v := (-1)) (a := (-1)) (by decide)) (by decide) dX8_laysWays_151 (fun q65 => False.elim (by omega)) (fun q65 => ?_)
          refine go_iconst (pc := 154) (v := (-1)) (by decide) dX8_laysWays_154 ?_
          refine go_goto (pc := 155) (tgt := 165) (by decide) dX8_laysWays_155 ?_
          refine gi_fst (pc := 165) (lo := -1) (hi := 5) (len := 80) hv64 (ti_rfl l2) (ti_c (v := (-1)) (a := (-1)) (by decide)) rfl (by omega) (by omega) (fun _ => rfl) (by omega) (by omega) (by omega) dX8_laysWays_165 (fun h66 hv66 hv66e => ?_)
          refine gf_iinc (pc := 166) (Nat.le_of_ble_eq_true rfl) rfl (ti_rfl l1) (ti_c (by decide)) (by omega) (by omega) dX8_laysWays_166 (fun v67 e68 => ?_)
          refine go_lv (lv2 := [(0, .ref 70), (1, .int v67), (2, .int l2), (4, .int l4)]) rfl ?_
          refine go_goto (pc := 169) (tgt := 2) (by decide) dX8_laysWays_169 ?_
          have E66 : h66.2.1 = (w1 h64.2.1 99 l2.toInt ((-1) : Int32)) := by
            rw [hv66e]
            rfl
          have oh66 : OH h.2.1 h66.2.1 S := by rw [E66]; exact (oh64.trans (OH.w 40 rfl (by omega) (by omega) (by omega) (by omega)))
          have n73_66 : V h66.2.1 73 S = V h64.2.1 73 S := by rw [E66, V_ne (by omega)]
          have n74_66 : V h66.2.1 74 S = V h64.2.1 74 S := by rw [E66, V_ne (by omega)]
          have n75_66 : V h66.2.1 75 S = V h64.2.1 75 S := by rw [E66, V_ne (by omega)]
          have ck66 : CKF h.2.1 → CKF h66.2.1 := fun z => by rw [E66]; exact (CKF.w (by omega) (ck64 z))
          have z69 : (v67 : Int32).toInt = (l1.toInt + 1) := e68
          exact go_lv rfl (ih.1 v67 _ h66 hv66 (MW.trans (MW.trans sqx (MW.mz _ _)) (MW.mz _ _)) (by omega) (by omega) ((xkx.trans (show KX 94 hx.2.1 h64.2.1 from by rw [E64]; exact ((KX.rfl 94 _).trans (KX.w (by omega))))).trans (show KX 94 h64.2.1 h66.2.1 from by rw [E66]; exact ((KX.rfl 94 _).trans (KX.w (by omega))))) (by rw [show (v67 : Int32).toInt = l1.toInt + 1 from e68]; exact (show WJ h.2.1 h66.2.1 S (l1.toInt + 1) from by rw [E66]; exact (WJ.same (show WJ h.2.1 h64.2.1 S (l1.toInt + 1) from by rw [E64]; exact (WJ.same x3 (by omega))) (by omega)))) oh66 ck66 (by omega))
      ·
        intro l1 Qx hx hvx sqx l1l l1u x0 x1 ohx ckx hm
        have xkx := x0
        have rdx : RD hx.2.1 S := RD.kx x0 (by omega) hr
        refine go_iload_n (pc := 174) rfl dX8_laysWays_174 ?_
        refine go_aload_n (pc := 175) rfl dX8_laysWays_175 ?_
        refine gi_getF (pc := 176) (q := 76) hvx fL_X8_26 rfl (Nat.le_of_ble_eq_true rfl) rfl (hvx.rf (by decide)) dX8_laysWays_176 ?_
        refine go_aload_n (pc := 179) rfl dX8_laysWays_179 ?_
        refine gi_get (pc := 180) (lo := 0) (hi := 1) hvx fL_X8_187 rfl (Nat.le_of_ble_eq_true rfl) rfl rfl dX8_laysWays_180 (fun v70 v70l v70u v70w => ?_)
        have v70S : v70.toInt = S := by rw [v70w]; exact (congrArg Int32.toInt ohx.side).trans hS.symm
        refine gi_iald (pc := 183) (lo := 0) (hi := 5) (len := 2) hvx (ti_rfl v70) rfl (by omega) (by omega) (fun _ => rfl) dX8_laysWays_183 (fun v71 v71l v71u v71w => ?_)
        have v71V : v71.toInt = V hx.2.1 76 S := by rw [v71w, v70S]; rfl
        refine gf_icmp_ge (pc := 184) (tgt := 223) (ti_rfl l1) (ti_rfl v71) (by decide) dX8_laysWays_184 (fun q72 => ?_) (fun q72 => ?_)
        ·
          have pp73 : KX 94 h.2.1 hx.2.1 := xkx
          have pp74 : WJ h.2.1 hx.2.1 S (V h.2.1 75 S) := x1
          subst hS
          exact gi_vret (pc := 223) ⟨rfl, ⟨_, hvx, sqx⟩, pp73, pp74, ohx, ckx⟩ hvx dX8_laysWays_223
        ·
          refine go_aload_n (pc := 187) rfl dX8_laysWays_187 ?_
          refine gi_getF (pc := 188) (q := 100) hvx fL_X8_98 rfl (Nat.le_of_ble_eq_true rfl) rfl (hvx.rf (by decide)) dX8_laysWays_188 ?_
          refine go_iconst (pc := 191) (v := 5) (by decide) dX8_laysWays_191 ?_
          refine go_aload_n (pc := 192) rfl dX8_laysWays_192 ?_
          refine gi_get (pc := 193) (lo := 0) (hi := 1) hvx fL_X8_187 rfl (Nat.le_of_ble_eq_true rfl) rfl rfl dX8_laysWays_193 (fun v75 v75l v75u v75w => ?_)
          have v75r : v70 = hx.2.1 70 6 := v70w
          have v75q : TI v75 v70.toInt := by rw [v75w.trans v75r.symm]; exact (ti_rfl v70)
          refine gf_imul (pc := 196) (ti_c (v := 5) (a := 5) (by decide)) v75q (by omega) (by omega) dX8_laysWays_196 (fun v76 e77 => ?_)
          refine go_iload_n (pc := 197) rfl dX8_laysWays_197 ?_
          refine gf_iadd (pc := 198) e77 (ti_rfl l1) (by omega) (by omega) dX8_laysWays_198 (fun v78 e79 => ?_)
          refine go_aload_n (pc := 199) rfl dX8_laysWays_199 ?_
          refine go_aload_n (pc := 200) rfl dX8_laysWays_200 ?_
          refine gi_getF (pc := 201) (q := 94) hvx fL_X8_80 rfl (Nat.le_of_ble_eq_true rfl) rfl (hvx.rf (by decide)) dX8_laysWays_201 ?_
          refine go_iconst (pc := 204) (v := 5) (by decide) dX8_laysWays_204 ?_
          refine go_aload_n (pc := 205) rfl dX8_laysWays_205 ?_
          refine gi_get (pc := 206) (lo := 0) (hi := 1) hvx fL_X8_187 rfl (Nat.le_of_ble_eq_true rfl) rfl rfl dX8_laysWays_206 (fun v80 v80l v80u v80w => ?_)
          have v80r : v70 = hx.2.1 70 6 := v70w
          have v80q : TI v80 v70.toInt := by rw [v80w.trans v80r.symm]; exact (ti_rfl v70)
          refine gf_imul (pc := 209) (ti_c (v := 5) (a := 5) (by decide)) v80q (by omega) (by omega) dX8_laysWays_209 (fun v81 e82 => ?_)
          refine go_iload_n (pc := 210) rfl dX8_laysWays_210 ?_
          refine gf_iadd (pc := 211) e82 (ti_rfl l1) (by omega) (by omega) dX8_laysWays_211 (fun v83 e84 => ?_)
          refine gi_iald (pc := 212) (lo := 0) (hi := 559) (len := 10) hvx e84 rfl (by omega) (by omega) (fun _ => rfl) dX8_laysWays_212 (fun v85 v85l v85u v85w => ?_)
          have v85V : v85.toInt = V hx.2.1 94 (((5 * S) + l1.toInt)) := by rw [v85w, v70S]; rfl
          have kx86 : KX 94 h.2.1 hx.2.1 := xkx
          have rd87 : RD hx.2.1 S := RD.kx kx86 (by omega) hr
          have sM88 : (hx.2.1 70 6).toInt = S := (congrArg Int32.toInt ohx.side).trans hS.symm
          refine go_invV (pc := 213) (sl := 0) (s_X8_firstOf l (d + 0) hvx v85 (by rw [show (v85 : Int32).toInt = v85.toInt from (ti_rfl v85)]; omega) (by rw [show (v85 : Int32).toInt = v85.toInt from (ti_rfl v85)]; omega) (by rw [sM88]; exact ⟨rd87.1, rd87.2.1⟩) (by rw [sM88]; exact (by rw [v85V]; exact (rd87.2.2 l1.toInt (by omega) (by omega)).1))) mL_X8_253 iM_X8_firstOf sM_X8_firstOf (hvx.sh rfl) rfl rfl rfl (Nat.le_of_ble_eq_true rfl) (show d + 0 + 540 + 1 ≤ d + 541 by omega) (show 8 + (2 + 11) + 40 * (d + 0 + 540) ≤ 40 * (d + 541) by omega) (g_c0 hvx.ln) (Nat.le_of_ble_eq_true rfl) dX8_laysWays_213 ?_
          intro r h89 hq _
          obtain ⟨v91, rfl, v91l, v91u, rfl, f90⟩ := hq
          rw [sM88] at f90
          refine gi_fst (pc := 216) (lo := -1) (hi := 39) (len := 10) hvx e79 (ti_rfl v91) rfl (by omega) (by omega) (fun _ => rfl) (by omega) (by omega) (by omega) dX8_laysWays_216 (fun h92 hv92 hv92e => ?_)
          refine gf_iinc (pc := 217) (Nat.le_of_ble_eq_true rfl) rfl (ti_rfl l1) (ti_c (by decide)) (by omega) (by omega) dX8_laysWays_217 (fun v93 e94 => ?_)
          refine go_lv (lv2 := [(0, .ref 70), (1, .int v93)]) rfl ?_
          refine go_goto (pc := 220) (tgt := 174) (by decide) dX8_laysWays_220 ?_
          have E92 : h92.2.1 = (w1 hx.2.1 100 (((5 * S) + l1.toInt)) (v91 : Int32)) := by
            rw [hv92e]
            rw [v70S]
            rfl
          have oh92 : OH h.2.1 h92.2.1 S := by rw [E92]; exact (ohx.trans (OH.w 5 rfl (by omega) (by omega) (by omega) (by omega)))
          have n73_92 : V h92.2.1 73 S = V hx.2.1 73 S := by rw [E92, V_ne (by omega)]
          have n74_92 : V h92.2.1 74 S = V hx.2.1 74 S := by rw [E92, V_ne (by omega)]
          have n75_92 : V h92.2.1 75 S = V hx.2.1 75 S := by rw [E92, V_ne (by omega)]
          have ck92 : CKF h.2.1 → CKF h92.2.1 := fun z => by rw [E92]; exact (CKF.w (by omega) (ckx z))
          have z95 : (v93 : Int32).toInt = (l1.toInt + 1) := e94
          exact go_lv rfl (ih.2.2.2 v93 _ h92 hv92 (MW.trans sqx (MW.mz _ _)) (by omega) (by omega) (xkx.trans (show KX 94 hx.2.1 h92.2.1 from by rw [E92]; exact ((KX.rfl 94 _).trans (KX.w (by omega))))) (show WJ h.2.1 h92.2.1 S (V h.2.1 75 S) from by rw [E92]; exact (WJ.same x1 (by omega))) oh92 ck92 (by omega))
  refine go_iconst (pc := 0) (v := 0) (by decide) dX8_laysWays_0 ?_
  refine go_istore_n (pc := 1) (Nat.le_of_ble_eq_true rfl) dX8_laysWays_1 (go_lv (lv2 := [(0, .ref 70), (1, .int 0)]) rfl ?_)
  have z96 : (0 : Int32).toInt = 0 := (ti_c (v := 0) (a := 0) (by decide))
  exact go_lv rfl ((key 244).1 0 _ h hv (MW.rfl _) (by omega) (by omega) (KX.rfl 94 _) (fun k a b => absurd b (by omega)) oh ck (by omega))
