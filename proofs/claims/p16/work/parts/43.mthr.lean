/-- the set is empty -/
def EM (F : FN) : Prop := WT F = 0 ∧ ∀ x : Int, 0 ≤ x → x < 608 → ¬ sb F 109 x
theorem EM.mk {F : FN} (h : ∀ j : Nat, (j : Int) < 19 → F 109 j = 0) (w : WT F = 0) : EM F := by
  refine ⟨w, fun x a b q => ?_⟩
  rw [sb_iff a, h _ (by omega)] at q
  have e : (0 : Int32).toBitVec = 0#32 := rfl
  rw [e, BitVec.getLsbD_zero] at q
  exact absurd q (by decide)
theorem EM.hw {F : FN} (h : EM F) : WT F ≤ ct F 109 := by
  have := ct_lo F 109
  have := h.1
  omega
theorem cn_step (F : FN) (c n m : Nat) (h : n ≤ m) : cn F c n ≤ cn F c m := by
  induction m with
  | zero => have : n = 0 := by omega
            subst this; exact Nat.le_refl _
  | succ m ih =>
    by_cases q : n = m + 1
    · subst q; exact Nat.le_refl _
    · have := ih (by omega)
      show cn F c n ≤ cn F c m + (if sbb F c m = true then 1 else 0)
      omega
/-- one more place is put to wait again -/
theorem push_step {F : FN} {x : Int} {v z : Int32} (h0 : 0 ≤ x) (h1 : x < 585) (hv : v.toInt = x) (hs : sb F 109 x) (hw : WT F ≤ (cn F 109 x.toNat : Int)) (hw0 : 0 ≤ WT F) (hz : z.toInt = WT F + 1) :
    let G : FN := fun p q => if p = 70 ∧ q = 47 then z else if p = 110 ∧ q = (WT F).toNat then v else F p q
    SU 109 F G ∧ KS F G ∧ WT G ≤ (cn G 109 (x + 1).toNat : Int) := by
  intro G
  have e9 : ∀ j, G 109 j = F 109 j := fun j => by
    show (if 109 = 70 ∧ j = 47 then z else if 109 = 110 ∧ j = (WT F).toNat then v else F 109 j) = _
    rw [if_neg (by omega), if_neg (by omega)]
  have ew : WT G = WT F + 1 := by
    show (if 70 = 70 ∧ 47 = 47 then z else _).toInt = _
    rw [if_pos ⟨rfl, rfl⟩, hz]
  have ec : ∀ n, cn G 109 n = cn F 109 n := fun n => by
    induction n with
    | zero => rfl
    | succ n ih =>
      show cn G 109 n + (if sbb G 109 n = true then 1 else 0) = cn F 109 n + (if sbb F 109 n = true then 1 else 0)
      rw [ih]
      unfold sbb
      rw [e9]
  refine ⟨fun y _ _ q => (sb_congr e9 y).mpr q, fun c j a b e => ?_, ?_⟩
  · show (if c = 70 ∧ j = 47 then z else if c = 110 ∧ j = (WT F).toNat then v else F c j) = _
    rw [if_neg e, if_neg (by omega)]
  · rw [ew, ec, show (x + 1).toNat = x.toNat + 1 by omega]
    show _ ≤ ((cn F 109 x.toNat + (if sbb F 109 x.toNat = true then 1 else 0) : Nat) : Int)
    rw [if_pos (show sbb F 109 x.toNat = true from hs)]
    omega
/-! what goes through -/
def cb (p : Nat → Bool) : Nat → Nat
  | 0 => 0
  | n + 1 => cb p n + (if p n = true then 1 else 0)
theorem cb_le (p : Nat → Bool) (n : Nat) : cb p n ≤ n := by
  induction n with
  | zero => exact Nat.le_refl _
  | succ n ih =>
    show cb p n + (if p n = true then 1 else 0) ≤ n + 1
    split <;> omega
theorem cb_mono {p q : Nat → Bool} {n : Nat} (h : ∀ k, k < n → p k = true → q k = true) : cb p n ≤ cb q n := by
  induction n with
  | zero => exact Nat.le_refl _
  | succ n ih =>
    have i := ih (fun k hk => h k (by omega))
    have j := h n (by omega)
    show cb p n + (if p n = true then 1 else 0) ≤ cb q n + (if q n = true then 1 else 0)
    by_cases w : p n = true
    · rw [if_pos w, if_pos (j w)]; omega
    · rw [if_neg w]; omega
theorem cb_lt {p q : Nat → Bool} {n x : Nat} (h : ∀ k, k < n → p k = true → q k = true) (hx : x < n) (h0 : ¬ p x = true) (h1 : q x = true) : cb p n + 1 ≤ cb q n := by
  induction n with
  | zero => omega
  | succ n ih =>
    have j := h n (by omega)
    show cb p n + (if p n = true then 1 else 0) + 1 ≤ cb q n + (if q n = true then 1 else 0)
    by_cases w : x = n
    · subst w
      have i := cb_mono (p := p) (q := q) (n := x) (fun k hk => h k (by omega))
      rw [if_neg h0, if_pos h1]; omega
    · have i := ih (fun k hk => h k (by omega)) (by omega)
      by_cases w2 : p n = true
      · rw [if_pos w2, if_pos (j w2)]; omega
      · rw [if_neg w2]; split <;> omega
def tbb (F : FN) (n : Nat) : Bool := (F 108 (n / 6)).toBitVec.getLsbD (n % 6)
def tc (F : FN) : Int := (cb (tbb F) 180 : Int)
theorem tc_lo (F : FN) : 0 ≤ tc F := by unfold tc; omega
theorem tc_hi (F : FN) : tc F ≤ 180 := by
  unfold tc
  have := cb_le (tbb F) 180
  omega
def OUTP (k : Int) : Int := 520 + 13 * (k / 6) + 7 + k % 6
def INP (k i : Int) : Int := 520 + 13 * (k / 6) + 1 + i
def TI1 (F : FN) (S : Int) : Prop := ∀ k i, 0 ≤ k → k < 30 → 0 ≤ i → i < 6 → tb F k i → ∀ C : Int → Prop, cl0 F S C → C (OUTP k) → C (INP k i)
def TN (F : FN) : Prop := ∀ k j, 0 ≤ k → k < 30 → 6 ≤ j → j < 32 → ¬ tb F k j
/-- all but the set, what waits, and what goes through stays -/
def KT (F G : FN) : Prop := ∀ c j : Nat, c ≠ 108 → c ≠ 109 → c ≠ 110 → ¬ (c = 70 ∧ j = 47) → G c j = F c j
theorem KT.rfl (F : FN) : KT F F := fun _ _ _ _ _ _ => _root_.rfl
theorem KT.trans {F G H : FN} (h : KT F G) (g : KT G H) : KT F H := fun c j a b d e => (g c j a b d e).trans (h c j a b d e)
theorem KT.ks {F G : FN} (h : KS F G) : KT F G := fun c j _ b d e => h c j b d e
theorem KT.ve {F G : FN} (h : KT F G) : VE F G := fun c j a b => h c j (by omega) (by omega) (by omega) (by omega)
theorem E0.mono {F G : FN} {S : Int} (h : KT F G) (m : ∀ k i, tb F k i → tb G k i) {y x : Int} (e : E0 F S y x) : E0 G S y x := by
  rcases e with e | ⟨e1, e2, e3, e4, i, i0, i1, it, ix⟩
  · left
    unfold hb at *
    rw [h 103 _ (by omega) (by omega) (by omega) (by omega)]; exact e
  · right
    refine ⟨e1, ?_, ?_, e4, i, i0, i1, ?_, ix⟩
    · rw [h.ve.v (by omega) (by omega)]; exact e2
    · rw [h.ve.v (by omega) (by omega), h.ve.v (by omega) (by omega)]; exact e3
    · rw [h.ve.v (c := 84) (by omega) (by omega), h.ve.v (c := 93) (by omega) (by omega)]; exact m _ _ it
theorem cl0.mono {F G : FN} {S : Int} (h : KT F G) (m : ∀ k i, tb F k i → tb G k i) {C : Int → Prop} (c : cl0 G S C) : cl0 F S C := fun y x a b a' b' q e => c y x a b a' b' q (E0.mono h m e)
/-- the state of one round: the set is what the place OUTP k reaches -/
def TS (F : FN) (S k : Int) : Prop := (∀ C : Int → Prop, cl0 F S C → C (OUTP k) → ∀ x, 0 ≤ x → x < 585 → sb F 109 x → C x) ∧ (∀ y x, 0 ≤ y → y < 585 → 0 ≤ x → x < 585 → sb F 109 y → E0 F S y x → sb F 109 x) ∧ sb F 109 (OUTP k)
theorem TS.mk {E F G : FN} {S k : Int} (em : EM E) (r : RC E F (OUTP k)) (h0 : 0 ≤ k) (h1 : k < 30) (g : GF F G S) : TS G S k := by
  obtain ⟨g1, g2, g3, g4⟩ := g
  have eo : 0 ≤ OUTP k ∧ OUTP k < 585 := by unfold OUTP; omega
  have m : ∀ a b, tb F a b → tb G a b := fun a b q => (tb_ks g4 a b).mpr q
  have m2 : ∀ a b, tb G a b → tb F a b := fun a b q => (tb_ks g4 a b).mp q
  have gs : KT G F := fun c j a b d e => (g4 c j b d e).symm
  refine ⟨fun C hc h => g1 C (cl0.mono (KT.ks g4) m hc) (fun x a b q => ?_), fun y x a b a' b' q e => g2 y x a b a' b' q (E0.mono gs m2 e), g3 _ eo.1 (by omega) ((r.1 _ eo.1 (by omega)).mpr (Or.inr rfl))⟩
  rcases (r.1 x a (by omega)).mp q with w | w
  · exact absurd w (em.2 x a (by omega))
  · rw [w]; exact h
theorem EM.fc {E F : FN} {S x : Int} (em : EM E) (r : RC E F x) (h0 : 0 ≤ x) (h1 : x < 585) : WT F ≤ ct F 109 ∧ FC F F S (-1) ∧ FR F := by
  have p := r.ph h0 h1 em.hw
  have hw := em.1
  rcases r.2.1 with ⟨a, _, _⟩ | ⟨a, b, c, d⟩
  · exact absurd a (em.2 x h0 (by omega))
  · refine ⟨p.1, fun y a' b' q => ?_, fun j a' b' => ?_⟩
    · rcases (r.1 y a' (by omega)).mp q with w | w
      · exact absurd w (em.2 y a' (by omega))
      · exact Or.inr (Or.inl ⟨0, by omega, by omega, by rw [← hw, c, w]⟩)
    · have : j = WT E := by omega
      rw [this, c]
      exact (r.1 x h0 (by omega)).mpr (Or.inr rfl)
/-- bits that stand for what is in the set -/
def BI (F : FN) (k i : Int) (v : Int32) : Prop := ∀ j : Nat, j < 32 → (v.toBitVec.getLsbD j = true ↔ (j : Int) < i ∧ sb F 109 (INP k j))
theorem BI.zero (F : FN) (k : Int) : BI F k 0 0 := fun j hj => by
  have e : (0 : Int32).toBitVec = 0#32 := rfl
  rw [e, BitVec.getLsbD_zero]
  exact ⟨fun q => absurd q (by decide), fun q => by omega⟩
theorem BI.add {F : FN} {k : Int} {i v : Int32} (h0 : 0 ≤ i.toInt) (h1 : i.toInt ≤ 5) (h : BI F k i.toInt v) (s : sb F 109 (INP k i.toInt)) : BI F k (i.toInt + 1) (v ||| (1 <<< (i &&& 31))) := fun j hj => by
  rw [or_bit h0 (by omega) hj, h j hj]
  constructor
  · intro q
    rcases q with q | q
    · exact ⟨by omega, q.2⟩
    · exact ⟨by omega, by rw [show (j : Int) = i.toInt by omega]; exact s⟩
  · intro q
    by_cases w : (j : Int) < i.toInt
    · exact Or.inl ⟨w, q.2⟩
    · exact Or.inr (by omega)
theorem BI.skip {F : FN} {k : Int} {i v : Int32} (h0 : 0 ≤ i.toInt) (h : BI F k i.toInt v) (s : ¬ sb F 109 (INP k i.toInt)) : BI F k (i.toInt + 1) (v ||| 0) := fun j hj => by
  rw [show v ||| 0 = v from by simp, h j hj]
  constructor
  · intro q; exact ⟨by omega, q.2⟩
  · intro q
    by_cases w : (j : Int) < i.toInt
    · exact ⟨w, q.2⟩
    · exact absurd (by rw [show i.toInt = (j : Int) by omega]; exact q.2) s
theorem TI1.step {F : FN} {S k : Int} {v : Int32} (h0 : 0 ≤ k) (h1 : k < 30) (t : TI1 F S) (n : TN F) (s : TS F S k) (b : BI F k 6 v) :
    let G : FN := fun p q => if p = 108 ∧ q = k.toNat then v else F p q
    TI1 G S ∧ TN G ∧ tc F ≤ tc G ∧ (¬ v = F 108 k.toNat → tc F + 1 ≤ tc G) ∧ KT F G := by
  intro G
  have ek : ∀ a j, 0 ≤ a → a ≠ k → (tb G a j ↔ tb F a j) := fun a j h q => by
    unfold tb
    show (if 108 = 108 ∧ a.toNat = k.toNat then v else F 108 a.toNat).toBitVec.getLsbD j.toNat = true ↔ _
    rw [if_neg (by omega)]
  have ev : ∀ j, tb G k j ↔ v.toBitVec.getLsbD j.toNat = true := fun j => by
    unfold tb
    show (if 108 = 108 ∧ k.toNat = k.toNat then v else F 108 k.toNat).toBitVec.getLsbD j.toNat = true ↔ _
    rw [if_pos ⟨rfl, rfl⟩]
  have eq0 : ∀ a j, a < 0 → (tb G a j → True) := fun _ _ _ _ => trivial
  have kt : KT F G := fun c j a b d e => by
    show (if c = 108 ∧ j = k.toNat then v else F c j) = _
    rw [if_neg (by omega)]
  have grow : ∀ i, 0 ≤ i → i < 6 → tb F k i → tb G k i := fun i a c q => by
    rw [ev]
    have w := t k i h0 h1 a c q (fun x => 0 ≤ x ∧ x < 585 ∧ sb F 109 x) (fun y x a1 b1 a2 b2 q1 e1 => ⟨a2, b2, s.2.1 y x a1 b1 a2 b2 q1.2.2 e1⟩) ⟨by unfold OUTP; omega, by unfold OUTP; omega, s.2.2⟩
    exact (b i.toNat (by omega)).mpr ⟨by omega, by rw [show ((i.toNat : Nat) : Int) = i by omega]; exact w.2.2⟩
  have m : ∀ a j, tb F a j → (0 ≤ a → a < 30 → 0 ≤ j → j < 32 → tb G a j) := fun a j q h2 h3 h4 h5 => by
    by_cases w : a = k
    · rw [w] at q ⊢
      by_cases w2 : j < 6
      · exact grow j h4 w2 q
      · exact absurd q (n k j h0 h1 (by omega) h5)
    · exact (ek a j h2 w).mpr q
  have clm : ∀ C : Int → Prop, cl0 G S C → cl0 F S C := fun C c y x a1 b1 a2 b2 q e => by
    refine c y x a1 b1 a2 b2 q ?_
    rcases e with e | ⟨e1, e2, e3, e4, i, i0, i1, it, ix⟩
    · left
      unfold hb at *
      rw [kt 103 _ (by omega) (by omega) (by omega) (by omega)]; exact e
    · right
      refine ⟨e1, ?_, ?_, e4, i, i0, i1, ?_, ix⟩
      · rw [kt.ve.v (by omega) (by omega)]; exact e2
      · rw [kt.ve.v (by omega) (by omega), kt.ve.v (by omega) (by omega)]; exact e3
      · rw [kt.ve.v (c := 84) (by omega) (by omega), kt.ve.v (c := 93) (by omega) (by omega)]
        by_cases w : 0 ≤ 6 * V F 84 (V F 93 (40 * S + y / 13)) + y % 13 - 7 ∧ 6 * V F 84 (V F 93 (40 * S + y / 13)) + y % 13 - 7 < 30
        · exact m _ _ it w.1 w.2 i0 (by omega)
        · by_cases w2 : (6 * V F 84 (V F 93 (40 * S + y / 13)) + y % 13 - 7).toNat = k.toNat
          · have e0 : tb F k i := by unfold tb at *; rw [← w2]; exact it
            have e9 := grow i i0 i1 e0
            unfold tb at *
            rw [w2]; exact e9
          · unfold tb at *
            show (if 108 = 108 ∧ (6 * V F 84 (V F 93 (40 * S + y / 13)) + y % 13 - 7).toNat = k.toNat then v else F 108 (6 * V F 84 (V F 93 (40 * S + y / 13)) + y % 13 - 7).toNat).toBitVec.getLsbD i.toNat = true
            rw [if_neg (by omega)]; exact it
  have tm : ∀ a, a < 180 → tbb F a = true → tbb G a = true := fun a h q => by
    have := m ((a / 6 : Nat) : Int) ((a % 6 : Nat) : Int) q (by omega) (by omega) (by omega) (by omega)
    exact this
  refine ⟨fun a j h2 h3 h4 h5 q C c ho => ?_, fun a j h2 h3 h4 h5 q => ?_, ?_, fun q => ?_, kt⟩
  · by_cases w : a = k
    · rw [w] at q ho ⊢
      rw [ev] at q
      have := (b j.toNat (by omega)).mp q
      rw [show ((j.toNat : Nat) : Int) = j by omega] at this
      exact s.1 C (clm C c) ho _ (by unfold INP; omega) (by unfold INP; omega) this.2
    · exact t a j h2 h3 h4 h5 ((ek a j h2 w).mp q) C (clm C c) ho
  · by_cases w : a = k
    · rw [w, ev] at q
      have := (b j.toNat (by omega)).mp q
      omega
    · exact n a j h2 h3 h4 h5 ((ek a j h2 w).mp q)
  · unfold tc
    have := cb_mono (p := tbb F) (q := tbb G) (n := 180) tm
    omega
  · have ex : ∃ j, j < 32 ∧ ¬ (v.toBitVec.getLsbD j = (F 108 k.toNat).toBitVec.getLsbD j) := by
      refine Classical.byContradiction (fun z => q ?_)
      apply Int32.toBitVec_inj.mp
      apply BitVec.eq_of_getLsbD_eq
      intro j hj
      exact Classical.byContradiction (fun z2 => z ⟨j, hj, z2⟩)
    obtain ⟨j, j1, j2⟩ := ex
    have hg : v.toBitVec.getLsbD j = true ∧ ¬ (F 108 k.toNat).toBitVec.getLsbD j = true := by
      by_cases w : (F 108 k.toNat).toBitVec.getLsbD j = true
      · exfalso
        have w2 : tb F k (j : Int) := w
        by_cases w3 : j < 6
        · have := (ev (j : Int)).mp (grow (j : Int) (by omega) (by omega) w2)
          have w4 : v.toBitVec.getLsbD j = true := this
          rw [w, w4] at j2
          exact j2 rfl
        · exact n k (j : Int) h0 h1 (by omega) (by omega) w2
      · refine ⟨?_, w⟩
        cases h : v.toBitVec.getLsbD j
        · cases h2 : (F 108 k.toNat).toBitVec.getLsbD j
          · rw [h, h2] at j2; exact absurd rfl j2
          · exact absurd h2 w
        · rfl
    have j6 : j < 6 := by have := (b j j1).mp hg.1; omega
    have := cb_lt (p := tbb F) (q := tbb G) (n := 180) (x := 6 * k.toNat + j) tm (by omega) (by
      unfold tbb
      rw [show (6 * k.toNat + j) / 6 = k.toNat by omega, show (6 * k.toNat + j) % 6 = j by omega]
      exact hg.2) (by
      unfold tbb
      rw [show (6 * k.toNat + j) / 6 = k.toNat by omega, show (6 * k.toNat + j) % 6 = j by omega]
      show (if 108 = 108 ∧ k.toNat = k.toNat then v else F 108 k.toNat).toBitVec.getLsbD j = true
      rw [if_pos ⟨rfl, rfl⟩]; exact hg.1)
    unfold tc
    omega
theorem TI1.zero {F : FN} {S : Int} (h : ∀ j : Nat, (j : Int) < 30 → F 108 j = 0) : TI1 F S ∧ TN F := by
  have z : ∀ k j, 0 ≤ k → k < 30 → ¬ tb F k j := fun k j a b q => by
    unfold tb at q
    rw [h _ (by omega)] at q
    have e : (0 : Int32).toBitVec = 0#32 := rfl
    rw [e, BitVec.getLsbD_zero] at q
    exact absurd q (by decide)
  exact ⟨fun k i a b _ _ q => absurd q (z k i a b), fun k j a b _ _ => z k j a b⟩
theorem TI1.ks {F G : FN} {S : Int} (h : KS F G) (t : TI1 F S) : TI1 G S := fun k i a b c d q C cl ho =>
  t k i a b c d ((tb_ks h k i).mp q) C (cl0.mono (KT.ks h) (fun a b q => (tb_ks h a b).mpr q) cl) ho
theorem TN.ks {F G : FN} (h : KS F G) (t : TN F) : TN G := fun k j a b c d q => t k j a b c d ((tb_ks h k j).mp q)
theorem tc_ks {F G : FN} (h : KS F G) : tc G = tc F := by
  have e : ∀ n, tbb G n = tbb F n := fun n => by unfold tbb; rw [h 108 _ (by omega) (by omega) (by omega)]
  unfold tc
  rw [show tbb G = tbb F from funext e]
theorem dX8_goesBack_0 : decode cX8_goesBack 0 = .ok (.aload_n 0, 1) := by decide +kernel
theorem dX8_goesBack_1 : decode cX8_goesBack 1 = .ok (.iconst 1, 1) := by decide +kernel
theorem dX8_goesBack_2 : decode cX8_goesBack 2 = .ok (.iconst 0, 1) := by decide +kernel
theorem dX8_goesBack_3 : decode cX8_goesBack 3 = .ok (.invokevirtual 359, 3) := by decide +kernel
theorem dX8_goesBack_6 : decode cX8_goesBack 6 = .ok (.iconst 0, 1) := by decide +kernel
theorem dX8_goesBack_7 : decode cX8_goesBack 7 = .ok (.istore_n 1, 1) := by decide +kernel
theorem dX8_goesBack_8 : decode cX8_goesBack 8 = .ok (.iload_n 1, 1) := by decide +kernel
theorem dX8_goesBack_9 : decode cX8_goesBack 9 = .ok (.sipush 585, 3) := by decide +kernel
theorem dX8_goesBack_12 : decode cX8_goesBack 12 = .ok (.if_icmp .ge 40, 3) := by decide +kernel
theorem dX8_goesBack_15 : decode cX8_goesBack 15 = .ok (.aload_n 0, 1) := by decide +kernel
theorem dX8_goesBack_16 : decode cX8_goesBack 16 = .ok (.iload_n 1, 1) := by decide +kernel
theorem dX8_goesBack_17 : decode cX8_goesBack 17 = .ok (.invokevirtual 341, 3) := by decide +kernel
theorem dX8_goesBack_20 : decode cX8_goesBack 20 = .ok (.ifCond .ne 6, 3) := by decide +kernel
theorem dX8_goesBack_23 : decode cX8_goesBack 23 = .ok (.goto 23, 3) := by decide +kernel
theorem dX8_goesBack_26 : decode cX8_goesBack 26 = .ok (.aload_n 0, 1) := by decide +kernel
theorem dX8_goesBack_27 : decode cX8_goesBack 27 = .ok (.getfield 130, 3) := by decide +kernel
theorem dX8_goesBack_30 : decode cX8_goesBack 30 = .ok (.aload_n 0, 1) := by decide +kernel
theorem dX8_goesBack_31 : decode cX8_goesBack 31 = .ok (.getfield 344, 3) := by decide +kernel
theorem dX8_goesBack_34 : decode cX8_goesBack 34 = .ok (.iload_n 1, 1) := by decide +kernel
theorem dX8_goesBack_35 : decode cX8_goesBack 35 = .ok (.iastore, 1) := by decide +kernel
theorem dX8_goesBack_36 : decode cX8_goesBack 36 = .ok (.aload_n 0, 1) := by decide +kernel
theorem dX8_goesBack_37 : decode cX8_goesBack 37 = .ok (.dup, 1) := by decide +kernel
theorem dX8_goesBack_38 : decode cX8_goesBack 38 = .ok (.getfield 344, 3) := by decide +kernel
theorem dX8_goesBack_41 : decode cX8_goesBack 41 = .ok (.iconst 1, 1) := by decide +kernel
theorem dX8_goesBack_42 : decode cX8_goesBack 42 = .ok (.iadd, 1) := by decide +kernel
theorem dX8_goesBack_43 : decode cX8_goesBack 43 = .ok (.putfield 344, 3) := by decide +kernel
theorem dX8_goesBack_46 : decode cX8_goesBack 46 = .ok (.iinc 1 1, 3) := by decide +kernel
theorem dX8_goesBack_49 : decode cX8_goesBack 49 = .ok (.goto (-41), 3) := by decide +kernel
theorem dX8_goesBack_52 : decode cX8_goesBack 52 = .ok (.aload_n 0, 1) := by decide +kernel
theorem dX8_goesBack_53 : decode cX8_goesBack 53 = .ok (.iconst 0, 1) := by decide +kernel
theorem dX8_goesBack_54 : decode cX8_goesBack 54 = .ok (.iconst 1, 1) := by decide +kernel
theorem dX8_goesBack_55 : decode cX8_goesBack 55 = .ok (.invokevirtual 359, 3) := by decide +kernel
theorem dX8_goesBack_58 : decode cX8_goesBack 58 = .ok (.return_, 1) := by decide +kernel
theorem dX8_laysThrough_0 : decode cX8_laysThrough 0 = .ok (.iconst 0, 1) := by decide +kernel
theorem dX8_laysThrough_1 : decode cX8_laysThrough 1 = .ok (.istore_n 1, 1) := by decide +kernel
theorem dX8_laysThrough_2 : decode cX8_laysThrough 2 = .ok (.iload_n 1, 1) := by decide +kernel
theorem dX8_laysThrough_3 : decode cX8_laysThrough 3 = .ok (.bipush 30, 2) := by decide +kernel
theorem dX8_laysThrough_5 : decode cX8_laysThrough 5 = .ok (.if_icmp .ge 16, 3) := by decide +kernel
theorem dX8_laysThrough_8 : decode cX8_laysThrough 8 = .ok (.aload_n 0, 1) := by decide +kernel
theorem dX8_laysThrough_9 : decode cX8_laysThrough 9 = .ok (.getfield 124, 3) := by decide +kernel
theorem dX8_laysThrough_12 : decode cX8_laysThrough 12 = .ok (.iload_n 1, 1) := by decide +kernel
theorem dX8_laysThrough_13 : decode cX8_laysThrough 13 = .ok (.iconst 0, 1) := by decide +kernel
theorem dX8_laysThrough_14 : decode cX8_laysThrough 14 = .ok (.iastore, 1) := by decide +kernel
theorem dX8_laysThrough_15 : decode cX8_laysThrough 15 = .ok (.iinc 1 1, 3) := by decide +kernel
theorem dX8_laysThrough_18 : decode cX8_laysThrough 18 = .ok (.goto (-16), 3) := by decide +kernel
theorem dX8_laysThrough_21 : decode cX8_laysThrough 21 = .ok (.iconst 1, 1) := by decide +kernel
theorem dX8_laysThrough_22 : decode cX8_laysThrough 22 = .ok (.istore_n 1, 1) := by decide +kernel
theorem dX8_laysThrough_23 : decode cX8_laysThrough 23 = .ok (.iload_n 1, 1) := by decide +kernel
theorem dX8_laysThrough_24 : decode cX8_laysThrough 24 = .ok (.ifCond .eq 134, 3) := by decide +kernel
theorem dX8_laysThrough_27 : decode cX8_laysThrough 27 = .ok (.iconst 0, 1) := by decide +kernel
theorem dX8_laysThrough_28 : decode cX8_laysThrough 28 = .ok (.istore_n 1, 1) := by decide +kernel
theorem dX8_laysThrough_29 : decode cX8_laysThrough 29 = .ok (.iconst 0, 1) := by decide +kernel
theorem dX8_laysThrough_30 : decode cX8_laysThrough 30 = .ok (.istore_n 2, 1) := by decide +kernel
theorem dX8_laysThrough_31 : decode cX8_laysThrough 31 = .ok (.iload_n 2, 1) := by decide +kernel
theorem dX8_laysThrough_32 : decode cX8_laysThrough 32 = .ok (.bipush 6, 2) := by decide +kernel
theorem dX8_laysThrough_34 : decode cX8_laysThrough 34 = .ok (.aload_n 0, 1) := by decide +kernel
theorem dX8_laysThrough_35 : decode cX8_laysThrough 35 = .ok (.getfield 26, 3) := by decide +kernel
theorem dX8_laysThrough_38 : decode cX8_laysThrough 38 = .ok (.aload_n 0, 1) := by decide +kernel
theorem dX8_laysThrough_39 : decode cX8_laysThrough 39 = .ok (.getfield 187, 3) := by decide +kernel
theorem dX8_laysThrough_42 : decode cX8_laysThrough 42 = .ok (.iaload, 1) := by decide +kernel
theorem dX8_laysThrough_43 : decode cX8_laysThrough 43 = .ok (.imul, 1) := by decide +kernel
theorem dX8_laysThrough_44 : decode cX8_laysThrough 44 = .ok (.if_icmp .ge 111, 3) := by decide +kernel
theorem dX8_laysThrough_47 : decode cX8_laysThrough 47 = .ok (.aload_n 0, 1) := by decide +kernel
theorem dX8_laysThrough_48 : decode cX8_laysThrough 48 = .ok (.invokevirtual 356, 3) := by decide +kernel
theorem dX8_laysThrough_51 : decode cX8_laysThrough 51 = .ok (.aload_n 0, 1) := by decide +kernel
theorem dX8_laysThrough_52 : decode cX8_laysThrough 52 = .ok (.iload_n 2, 1) := by decide +kernel
theorem dX8_laysThrough_53 : decode cX8_laysThrough 53 = .ok (.bipush 6, 2) := by decide +kernel
theorem dX8_laysThrough_55 : decode cX8_laysThrough 55 = .ok (.idiv, 1) := by decide +kernel
theorem dX8_laysThrough_56 : decode cX8_laysThrough 56 = .ok (.bipush 7, 2) := by decide +kernel
theorem dX8_laysThrough_58 : decode cX8_laysThrough 58 = .ok (.iload_n 2, 1) := by decide +kernel
theorem dX8_laysThrough_59 : decode cX8_laysThrough 59 = .ok (.bipush 6, 2) := by decide +kernel
theorem dX8_laysThrough_61 : decode cX8_laysThrough 61 = .ok (.irem, 1) := by decide +kernel
theorem dX8_laysThrough_62 : decode cX8_laysThrough 62 = .ok (.iadd, 1) := by decide +kernel
theorem dX8_laysThrough_63 : decode cX8_laysThrough 63 = .ok (.invokestatic 300, 3) := by decide +kernel
theorem dX8_laysThrough_66 : decode cX8_laysThrough 66 = .ok (.invokevirtual 347, 3) := by decide +kernel
theorem dX8_laysThrough_69 : decode cX8_laysThrough 69 = .ok (.aload_n 0, 1) := by decide +kernel
theorem dX8_laysThrough_70 : decode cX8_laysThrough 70 = .ok (.iconst 0, 1) := by decide +kernel
theorem dX8_laysThrough_71 : decode cX8_laysThrough 71 = .ok (.iconst 0, 1) := by decide +kernel
theorem dX8_laysThrough_72 : decode cX8_laysThrough 72 = .ok (.invokevirtual 359, 3) := by decide +kernel
theorem dX8_laysThrough_75 : decode cX8_laysThrough 75 = .ok (.iconst 0, 1) := by decide +kernel
theorem dX8_laysThrough_76 : decode cX8_laysThrough 76 = .ok (.istore_n 3, 1) := by decide +kernel
theorem dX8_laysThrough_77 : decode cX8_laysThrough 77 = .ok (.iconst 0, 1) := by decide +kernel
theorem dX8_laysThrough_78 : decode cX8_laysThrough 78 = .ok (.istore 4, 2) := by decide +kernel
theorem dX8_laysThrough_80 : decode cX8_laysThrough 80 = .ok (.iload 4, 2) := by decide +kernel
theorem dX8_laysThrough_82 : decode cX8_laysThrough 82 = .ok (.bipush 6, 2) := by decide +kernel
theorem dX8_laysThrough_84 : decode cX8_laysThrough 84 = .ok (.if_icmp .ge 38, 3) := by decide +kernel
theorem dX8_laysThrough_87 : decode cX8_laysThrough 87 = .ok (.iload_n 3, 1) := by decide +kernel
theorem dX8_laysThrough_88 : decode cX8_laysThrough 88 = .ok (.aload_n 0, 1) := by decide +kernel
theorem dX8_laysThrough_89 : decode cX8_laysThrough 89 = .ok (.iload_n 2, 1) := by decide +kernel
theorem dX8_laysThrough_90 : decode cX8_laysThrough 90 = .ok (.bipush 6, 2) := by decide +kernel
theorem dX8_laysThrough_92 : decode cX8_laysThrough 92 = .ok (.idiv, 1) := by decide +kernel
theorem dX8_laysThrough_93 : decode cX8_laysThrough 93 = .ok (.iconst 1, 1) := by decide +kernel
theorem dX8_laysThrough_94 : decode cX8_laysThrough 94 = .ok (.iload 4, 2) := by decide +kernel
theorem dX8_laysThrough_96 : decode cX8_laysThrough 96 = .ok (.iadd, 1) := by decide +kernel
theorem dX8_laysThrough_97 : decode cX8_laysThrough 97 = .ok (.invokestatic 300, 3) := by decide +kernel
theorem dX8_laysThrough_100 : decode cX8_laysThrough 100 = .ok (.invokevirtual 341, 3) := by decide +kernel
theorem dX8_laysThrough_103 : decode cX8_laysThrough 103 = .ok (.ifCond .eq 10, 3) := by decide +kernel
theorem dX8_laysThrough_106 : decode cX8_laysThrough 106 = .ok (.iconst 1, 1) := by decide +kernel
theorem dX8_laysThrough_107 : decode cX8_laysThrough 107 = .ok (.iload 4, 2) := by decide +kernel
theorem dX8_laysThrough_109 : decode cX8_laysThrough 109 = .ok (.ishl, 1) := by decide +kernel
theorem dX8_laysThrough_110 : decode cX8_laysThrough 110 = .ok (.goto 4, 3) := by decide +kernel
theorem dX8_laysThrough_113 : decode cX8_laysThrough 113 = .ok (.iconst 0, 1) := by decide +kernel
theorem dX8_laysThrough_114 : decode cX8_laysThrough 114 = .ok (.ior, 1) := by decide +kernel
theorem dX8_laysThrough_115 : decode cX8_laysThrough 115 = .ok (.istore_n 3, 1) := by decide +kernel
theorem dX8_laysThrough_116 : decode cX8_laysThrough 116 = .ok (.iinc 4 1, 3) := by decide +kernel
theorem dX8_laysThrough_119 : decode cX8_laysThrough 119 = .ok (.goto (-39), 3) := by decide +kernel
theorem dX8_laysThrough_122 : decode cX8_laysThrough 122 = .ok (.iload_n 1, 1) := by decide +kernel
theorem dX8_laysThrough_123 : decode cX8_laysThrough 123 = .ok (.ifCond .ne 13, 3) := by decide +kernel
theorem dX8_laysThrough_126 : decode cX8_laysThrough 126 = .ok (.iload_n 3, 1) := by decide +kernel
theorem dX8_laysThrough_127 : decode cX8_laysThrough 127 = .ok (.aload_n 0, 1) := by decide +kernel
theorem dX8_laysThrough_128 : decode cX8_laysThrough 128 = .ok (.getfield 124, 3) := by decide +kernel
theorem dX8_laysThrough_131 : decode cX8_laysThrough 131 = .ok (.iload_n 2, 1) := by decide +kernel
theorem dX8_laysThrough_132 : decode cX8_laysThrough 132 = .ok (.iaload, 1) := by decide +kernel
theorem dX8_laysThrough_133 : decode cX8_laysThrough 133 = .ok (.if_icmp .eq 7, 3) := by decide +kernel
theorem dX8_laysThrough_136 : decode cX8_laysThrough 136 = .ok (.iconst 1, 1) := by decide +kernel
theorem dX8_laysThrough_137 : decode cX8_laysThrough 137 = .ok (.goto 4, 3) := by decide +kernel
theorem dX8_laysThrough_140 : decode cX8_laysThrough 140 = .ok (.iconst 0, 1) := by decide +kernel
theorem dX8_laysThrough_141 : decode cX8_laysThrough 141 = .ok (.istore_n 1, 1) := by decide +kernel
theorem dX8_laysThrough_142 : decode cX8_laysThrough 142 = .ok (.aload_n 0, 1) := by decide +kernel
theorem dX8_laysThrough_143 : decode cX8_laysThrough 143 = .ok (.getfield 124, 3) := by decide +kernel
theorem dX8_laysThrough_146 : decode cX8_laysThrough 146 = .ok (.iload_n 2, 1) := by decide +kernel
theorem dX8_laysThrough_147 : decode cX8_laysThrough 147 = .ok (.iload_n 3, 1) := by decide +kernel
theorem dX8_laysThrough_148 : decode cX8_laysThrough 148 = .ok (.iastore, 1) := by decide +kernel
theorem dX8_laysThrough_149 : decode cX8_laysThrough 149 = .ok (.iinc 2 1, 3) := by decide +kernel
theorem dX8_laysThrough_152 : decode cX8_laysThrough 152 = .ok (.goto (-121), 3) := by decide +kernel
theorem dX8_laysThrough_155 : decode cX8_laysThrough 155 = .ok (.goto (-132), 3) := by decide +kernel
theorem dX8_laysThrough_158 : decode cX8_laysThrough 158 = .ok (.return_, 1) := by decide +kernel
set_option maxHeartbeats 4000000 in
set_option maxRecDepth 100000 in
theorem s_X8_statementPlace_x (l : Launch) (d : Nat) {P : PP} {h : HP} (hv : Iv P h) (a1 : Int32) (a1l : 0 ≤ a1.toInt) (a1u : a1.toInt ≤ 39) (a2 : Int32) (a2l : 0 ≤ a2.toInt) (a2u : a2.toInt ≤ 12) : Mt l yX8_statementPlace cX8_statementPlace 2 (some .int) (d + 1) [.int a1, .int a2] h 0 0 (fun r h' => ∃ v : Int32, r = some (.int v) ∧ 0 ≤ v.toInt ∧ v.toInt ≤ 519 ∧ h = h' ∧ (v.toInt = 13 * a1.toInt + a2.toInt)) := by
  refine Mt_iv hv (by decide) (Nat.le_of_ble_eq_true rfl) ?_
  show Go l RX8 cX8_statementPlace 2 (g_rm (d + 1) 0 0) "statementPlace" (some .int) 117 0 0 (fun _ _ => True) (fun r h' => ∃ v : Int32, r = some (.int v) ∧ 0 ≤ v.toInt ∧ v.toInt ≤ 519 ∧ h = h' ∧ (v.toInt = 13 * a1.toInt + a2.toInt)) 0 0 [(0, .int a1), (1, .int a2)] [] h
  refine go_bipush (pc := 0) (v := 13) (by decide) dX8_statementPlace_0 ?_
  refine go_iload_n (pc := 2) rfl dX8_statementPlace_2 ?_
  refine gf_imul (pc := 3) (ti_c (v := 13) (a := 13) (by decide)) (ti_rfl a1) (by omega) (by omega) dX8_statementPlace_3 (fun v1 e2 => ?_)
  refine go_iload_n (pc := 4) rfl dX8_statementPlace_4 ?_
  refine gf_iadd (pc := 5) e2 (ti_rfl a2) (by omega) (by omega) dX8_statementPlace_5 (fun v3 e4 => ?_)
  exact gi_iret (pc := 6) e4 ⟨_, rfl, (by rw [show (v3 : Int32).toInt = ((13 * a1.toInt) + a2.toInt) from e4]; omega), (by rw [show (v3 : Int32).toInt = ((13 * a1.toInt) + a2.toInt) from e4]; omega), rfl, (by have z : (v3 : Int32).toInt = ((13 * a1.toInt) + a2.toInt) := e4; omega)⟩ hv dX8_statementPlace_6
