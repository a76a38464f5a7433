/-- the set is empty -/
def EM (F : FN) : Prop := WT F = 0 ∧ ∀ x : Int, 0 ≤ x → x < 608 → ¬ sb F 109 x
theorem EM.mk {F : FN} (h : ∀ j : Nat, (j : Int) < 19 → F 109 j = 0) (w : WT F = 0) : EM F := by
  refine ⟨w, fun x a b q => ?_⟩
  rw [sb_iff a, h _ (by omega)] at q
  have e : (0 : Int32).toBitVec = 0#32 := rfl
  rw [e, BitVec.getLsbD_zero] at q
  exact absurd q (by decide)
theorem EM.hw {F : FN} (h : EM F) : WT F ≤ ct F 109 := by
  have := ct_lo F 109
  have := h.1
  omega
theorem cn_step (F : FN) (c n m : Nat) (h : n ≤ m) : cn F c n ≤ cn F c m := by
  induction m with
  | zero => have : n = 0 := by omega
            subst this; exact Nat.le_refl _
  | succ m ih =>
    by_cases q : n = m + 1
    · subst q; exact Nat.le_refl _
    · have := ih (by omega)
      show cn F c n ≤ cn F c m + (if sbb F c m = true then 1 else 0)
      omega
/-- one more place is put to wait again -/
theorem push_step {F : FN} {x : Int} {v z : Int32} (h0 : 0 ≤ x) (h1 : x < 585) (hv : v.toInt = x) (hs : sb F 109 x) (hw : WT F ≤ (cn F 109 x.toNat : Int)) (hw0 : 0 ≤ WT F) (hz : z.toInt = WT F + 1) :
    let G : FN := fun p q => if p = 70 ∧ q = 47 then z else if p = 110 ∧ q = (WT F).toNat then v else F p q
    SU 109 F G ∧ KS F G ∧ WT G ≤ (cn G 109 (x + 1).toNat : Int) := by
  intro G
  have e9 : ∀ j, G 109 j = F 109 j := fun j => by
    show (if 109 = 70 ∧ j = 47 then z else if 109 = 110 ∧ j = (WT F).toNat then v else F 109 j) = _
    rw [if_neg (by omega), if_neg (by omega)]
  have ew : WT G = WT F + 1 := by
    show (if 70 = 70 ∧ 47 = 47 then z else _).toInt = _
    rw [if_pos ⟨rfl, rfl⟩, hz]
  have ec : ∀ n, cn G 109 n = cn F 109 n := fun n => by
    induction n with
    | zero => rfl
    | succ n ih =>
      show cn G 109 n + (if sbb G 109 n = true then 1 else 0) = cn F 109 n + (if sbb F 109 n = true then 1 else 0)
      rw [ih]
      unfold sbb
      rw [e9]
  refine ⟨fun y _ _ q => (sb_congr e9 y).mpr q, fun c j a b e => ?_, ?_⟩
  · show (if c = 70 ∧ j = 47 then z else if c = 110 ∧ j = (WT F).toNat then v else F c j) = _
    rw [if_neg e, if_neg (by omega)]
  · rw [ew, ec, show (x + 1).toNat = x.toNat + 1 by omega]
    show _ ≤ ((cn F 109 x.toNat + (if sbb F 109 x.toNat = true then 1 else 0) : Nat) : Int)
    rw [if_pos (show sbb F 109 x.toNat = true from hs)]
    omega
/-! what goes through -/
def cb (p : Nat → Bool) : Nat → Nat
  | 0 => 0
  | n + 1 => cb p n + (if p n = true then 1 else 0)
theorem cb_le (p : Nat → Bool) (n : Nat) : cb p n ≤ n := by
  induction n with
  | zero => exact Nat.le_refl _
  | succ n ih =>
    show cb p n + (if p n = true then 1 else 0) ≤ n + 1
    split <;> omega
theorem cb_mono {p q : Nat → Bool} {n : Nat} (h : ∀ k, k < n → p k = true → q k = true) : cb p n ≤ cb q n := by
  induction n with
  | zero => exact Nat.le_refl _
  | succ n ih =>
    have i := ih (fun k hk => h k (by omega))
    have j := h n (by omega)
    show cb p n + (if p n = true then 1 else 0) ≤ cb q n + (if q n = true then 1 else 0)
    by_cases w : p n = true
    · rw [if_pos w, if_pos (j w)]; omega
    · rw [if_neg w]; omega
theorem cb_lt {p q : Nat → Bool} {n x : Nat} (h : ∀ k, k < n → p k = true → q k = true) (hx : x < n) (h0 : ¬ p x = true) (h1 : q x = true) : cb p n + 1 ≤ cb q n := by
  induction n with
  | zero => omega
  | succ n ih =>
    have j := h n (by omega)
    show cb p n + (if p n = true then 1 else 0) + 1 ≤ cb q n + (if q n = true then 1 else 0)
    by_cases w : x = n
    · subst w
      have i := cb_mono (p := p) (q := q) (n := x) (fun k hk => h k (by omega))
      rw [if_neg h0, if_pos h1]; omega
    · have i := ih (fun k hk => h k (by omega)) (by omega)
      by_cases w2 : p n = true
      · rw [if_pos w2, if_pos (j w2)]; omega
      · rw [if_neg w2]; split <;> omega
def tbb (F : FN) (n : Nat) : Bool := (F 108 (n / 6)).toBitVec.getLsbD (n % 6)
def tc (F : FN) : Int := (cb (tbb F) 180 : Int)
theorem tc_lo (F : FN) : 0 ≤ tc F := by unfold tc; omega
theorem tc_hi (F : FN) : tc F ≤ 180 := by
  unfold tc
  have := cb_le (tbb F) 180
  omega
def OUTP (k : Int) : Int := 520 + 13 * (k / 6) + 7 + k % 6
def INP (k i : Int) : Int := 520 + 13 * (k / 6) + 1 + i
def TI1 (F : FN) (S : Int) : Prop := ∀ k i, 0 ≤ k → k < 30 → 0 ≤ i → i < 6 → tb F k i → ∀ C : Int → Prop, cl0 F S C → C (OUTP k) → C (INP k i)
def TN (F : FN) : Prop := ∀ k j, 0 ≤ k → k < 30 → 6 ≤ j → j < 32 → ¬ tb F k j
/-- all but the set, what waits, and what goes through stays -/
def KT (F G : FN) : Prop := ∀ c j : Nat, c ≠ 108 → c ≠ 109 → c ≠ 110 → ¬ (c = 70 ∧ j = 47) → G c j = F c j
theorem KT.rfl (F : FN) : KT F F := fun _ _ _ _ _ _ => _root_.rfl
theorem KT.trans {F G H : FN} (h : KT F G) (g : KT G H) : KT F H := fun c j a b d e => (g c j a b d e).trans (h c j a b d e)
theorem KT.ks {F G : FN} (h : KS F G) : KT F G := fun c j _ b d e => h c j b d e
theorem KT.ve {F G : FN} (h : KT F G) : VE F G := fun c j a b => h c j (by omega) (by omega) (by omega) (by omega)
theorem E0.mono {F G : FN} {S : Int} (h : KT F G) (m : ∀ k i, tb F k i → tb G k i) {y x : Int} (e : E0 F S y x) : E0 G S y x := by
  rcases e with e | ⟨e1, e2, e3, e4, i, i0, i1, it, ix⟩
  · left
    unfold hb at *
    rw [h 103 _ (by omega) (by omega) (by omega) (by omega)]; exact e
  · right
    refine ⟨e1, ?_, ?_, e4, i, i0, i1, ?_, ix⟩
    · rw [h.ve.v (by omega) (by omega)]; exact e2
    · rw [h.ve.v (by omega) (by omega), h.ve.v (by omega) (by omega)]; exact e3
    · rw [h.ve.v (c := 84) (by omega) (by omega), h.ve.v (c := 93) (by omega) (by omega)]; exact m _ _ it
theorem cl0.mono {F G : FN} {S : Int} (h : KT F G) (m : ∀ k i, tb F k i → tb G k i) {C : Int → Prop} (c : cl0 G S C) : cl0 F S C := fun y x a b a' b' q e => c y x a b a' b' q (E0.mono h m e)
/-- the state of one round: the set is what the place OUTP k reaches -/
def TS (F : FN) (S k : Int) : Prop := (∀ C : Int → Prop, cl0 F S C → C (OUTP k) → ∀ x, 0 ≤ x → x < 585 → sb F 109 x → C x) ∧ (∀ y x, 0 ≤ y → y < 585 → 0 ≤ x → x < 585 → sb F 109 y → E0 F S y x → sb F 109 x) ∧ sb F 109 (OUTP k)
theorem TS.mk {E F G : FN} {S k : Int} (em : EM E) (r : RC E F (OUTP k)) (h0 : 0 ≤ k) (h1 : k < 30) (g : GF F G S) : TS G S k := by
  obtain ⟨g1, g2, g3, g4⟩ := g
  have eo : 0 ≤ OUTP k ∧ OUTP k < 585 := by unfold OUTP; omega
  have m : ∀ a b, tb F a b → tb G a b := fun a b q => (tb_ks g4 a b).mpr q
  have m2 : ∀ a b, tb G a b → tb F a b := fun a b q => (tb_ks g4 a b).mp q
  have gs : KT G F := fun c j a b d e => (g4 c j b d e).symm
  refine ⟨fun C hc h => g1 C (cl0.mono (KT.ks g4) m hc) (fun x a b q => ?_), fun y x a b a' b' q e => g2 y x a b a' b' q (E0.mono gs m2 e), g3 _ eo.1 (by omega) ((r.1 _ eo.1 (by omega)).mpr (Or.inr rfl))⟩
  rcases (r.1 x a (by omega)).mp q with w | w
  · exact absurd w (em.2 x a (by omega))
  · rw [w]; exact h
theorem EM.fc {E F : FN} {S x : Int} (em : EM E) (r : RC E F x) (h0 : 0 ≤ x) (h1 : x < 585) : WT F ≤ ct F 109 ∧ FC F F S (-1) ∧ FR F := by
  have p := r.ph h0 h1 em.hw
  have hw := em.1
  rcases r.2.1 with ⟨a, _, _⟩ | ⟨a, b, c, d⟩
  · exact absurd a (em.2 x h0 (by omega))
  · refine ⟨p.1, fun y a' b' q => ?_, fun j a' b' => ?_⟩
    · rcases (r.1 y a' (by omega)).mp q with w | w
      · exact absurd w (em.2 y a' (by omega))
      · exact Or.inr (Or.inl ⟨0, by omega, by omega, by rw [← hw, c, w]⟩)
    · have : j = WT E := by omega
      rw [this, c]
      exact (r.1 x h0 (by omega)).mpr (Or.inr rfl)
/-- bits that stand for what is in the set -/
def BI (F : FN) (k i : Int) (v : Int32) : Prop := ∀ j : Nat, j < 32 → (v.toBitVec.getLsbD j = true ↔ (j : Int) < i ∧ sb F 109 (INP k j))
theorem BI.zero (F : FN) (k : Int) : BI F k 0 0 := fun j hj => by
  have e : (0 : Int32).toBitVec = 0#32 := rfl
  rw [e, BitVec.getLsbD_zero]
  exact ⟨fun q => absurd q (by decide), fun q => by omega⟩
theorem BI.add {F : FN} {k : Int} {i v : Int32} (h0 : 0 ≤ i.toInt) (h1 : i.toInt ≤ 5) (h : BI F k i.toInt v) (s : sb F 109 (INP k i.toInt)) : BI F k (i.toInt + 1) (v ||| (1 <<< (i &&& 31))) := fun j hj => by
  rw [or_bit h0 (by omega) hj, h j hj]
  constructor
  · intro q
    rcases q with q | q
    · exact ⟨by omega, q.2⟩
    · exact ⟨by omega, by rw [show (j : Int) = i.toInt by omega]; exact s⟩
  · intro q
    by_cases w : (j : Int) < i.toInt
    · exact Or.inl ⟨w, q.2⟩
    · exact Or.inr (by omega)
theorem BI.skip {F : FN} {k : Int} {i v : Int32} (h0 : 0 ≤ i.toInt) (h : BI F k i.toInt v) (s : ¬ sb F 109 (INP k i.toInt)) : BI F k (i.toInt + 1) (v ||| 0) := fun j hj => by
  rw [show v ||| 0 = v from by simp, h j hj]
  constructor
  · intro q; exact ⟨by omega, q.2⟩
  · intro q
    by_cases w : (j : Int) < i.toInt
    · exact ⟨w, q.2⟩
    · exact absurd (by rw [show i.toInt = (j : Int) by omega]; exact q.2) s
theorem TI1.step {F : FN} {S k : Int} {v : Int32} (h0 : 0 ≤ k) (h1 : k < 30) (t : TI1 F S) (n : TN F) (s : TS F S k) (b : BI F k 6 v) :
    let G : FN := fun p q => if p = 108 ∧ q = k.toNat then v else F p q
    TI1 G S ∧ TN G ∧ tc F ≤ tc G ∧ (¬ v = F 108 k.toNat → tc F + 1 ≤ tc G) ∧ KT F G := by
  intro G
  have ek : ∀ a j, 0 ≤ a → a ≠ k → (tb G a j ↔ tb F a j) := fun a j h q => by
    unfold tb
    show (if 108 = 108 ∧ a.toNat = k.toNat then v else F 108 a.toNat).toBitVec.getLsbD j.toNat = true ↔ _
    rw [if_neg (by omega)]
  have ev : ∀ j, tb G k j ↔ v.toBitVec.getLsbD j.toNat = true := fun j => by
    unfold tb
    show (if 108 = 108 ∧ k.toNat = k.toNat then v else F 108 k.toNat).toBitVec.getLsbD j.toNat = true ↔ _
    rw [if_pos ⟨rfl, rfl⟩]
  have eq0 : ∀ a j, a < 0 → (tb G a j → True) := fun _ _ _ _ => trivial
  have kt : KT F G := fun c j a b d e => by
    show (if c = 108 ∧ j = k.toNat then v else F c j) = _
    rw [if_neg (by omega)]
  have grow : ∀ i, 0 ≤ i → i < 6 → tb F k i → tb G k i := fun i a c q => by
    rw [ev]
    have w := t k i h0 h1 a c q (fun x => 0 ≤ x ∧ x < 585 ∧ sb F 109 x) (fun y x a1 b1 a2 b2 q1 e1 => ⟨a2, b2, s.2.1 y x a1 b1 a2 b2 q1.2.2 e1⟩) ⟨by unfold OUTP; omega, by unfold OUTP; omega, s.2.2⟩
    exact (b i.toNat (by omega)).mpr ⟨by omega, by rw [show ((i.toNat : Nat) : Int) = i by omega]; exact w.2.2⟩
  have m : ∀ a j, tb F a j → (0 ≤ a → a < 30 → 0 ≤ j → j < 32 → tb G a j) := fun a j q h2 h3 h4 h5 => by
    by_cases w : a = k
    · rw [w] at q ⊢
      by_cases w2 : j < 6
      · exact grow j h4 w2 q
      · exact absurd q (n k j h0 h1 (by omega) h5)
    · exact (ek a j h2 w).mpr q
  have clm : ∀ C : Int → Prop, cl0 G S C → cl0 F S C := fun C c y x a1 b1 a2 b2 q e => by
    refine c y x a1 b1 a2 b2 q ?_
    rcases e with e | ⟨e1, e2, e3, e4, i, i0, i1, it, ix⟩
    · left
      unfold hb at *
      rw [kt 103 _ (by omega) (by omega) (by omega) (by omega)]; exact e
    · right
      refine ⟨e1, ?_, ?_, e4, i, i0, i1, ?_, ix⟩
      · rw [kt.ve.v (by omega) (by omega)]; exact e2
      · rw [kt.ve.v (by omega) (by omega), kt.ve.v (by omega) (by omega)]; exact e3
      · rw [kt.ve.v (c := 84) (by omega) (by omega), kt.ve.v (c := 93) (by omega) (by omega)]
        by_cases w : 0 ≤ 6 * V F 84 (V F 93 (40 * S + y / 13)) + y % 13 - 7 ∧ 6 * V F 84 (V F 93 (40 * S + y / 13)) + y % 13 - 7 < 30
        · exact m _ _ it w.1 w.2 i0 (by omega)
        · by_cases w2 : (6 * V F 84 (V F 93 (40 * S + y / 13)) + y % 13 - 7).toNat = k.toNat
          · have e0 : tb F k i := by unfold tb at *; rw [← w2]; exact it
            have e9 := grow i i0 i1 e0
            unfold tb at *
            rw [w2]; exact e9
          · unfold tb at *
            show (if 108 = 108 ∧ (6 * V F 84 (V F 93 (40 * S + y / 13)) + y % 13 - 7).toNat = k.toNat then v else F 108 (6 * V F 84 (V F 93 (40 * S + y / 13)) + y % 13 - 7).toNat).toBitVec.getLsbD i.toNat = true
            rw [if_neg (by omega)]; exact it
  have tm : ∀ a, a < 180 → tbb F a = true → tbb G a = true := fun a h q => by
    have := m ((a / 6 : Nat) : Int) ((a % 6 : Nat) : Int) q (by omega) (by omega) (by omega) (by omega)
    exact this
  refine ⟨fun a j h2 h3 h4 h5 q C c ho => ?_, fun a j h2 h3 h4 h5 q => ?_, ?_, fun q => ?_, kt⟩
  · by_cases w : a = k
    · rw [w] at q ho ⊢
      rw [ev] at q
      have := (b j.toNat (by omega)).mp q
      rw [show ((j.toNat : Nat) : Int) = j by omega] at this
      exact s.1 C (clm C c) ho _ (by unfold INP; omega) (by unfold INP; omega) this.2
    · exact t a j h2 h3 h4 h5 ((ek a j h2 w).mp q) C (clm C c) ho
  · by_cases w : a = k
    · rw [w, ev] at q
      have := (b j.toNat (by omega)).mp q
      omega
    · exact n a j h2 h3 h4 h5 ((ek a j h2 w).mp q)
  · unfold tc
    have := cb_mono (p := tbb F) (q := tbb G) (n := 180) tm
    omega
  · have ex : ∃ j, j < 32 ∧ ¬ (v.toBitVec.getLsbD j = (F 108 k.toNat).toBitVec.getLsbD j) := by
      refine Classical.byContradiction (fun z => q ?_)
      apply Int32.toBitVec_inj.mp
      apply BitVec.eq_of_getLsbD_eq
      intro j hj
      exact Classical.byContradiction (fun z2 => z ⟨j, hj, z2⟩)
    obtain ⟨j, j1, j2⟩ := ex
    have hg : v.toBitVec.getLsbD j = true ∧ ¬ (F 108 k.toNat).toBitVec.getLsbD j = true := by
      by_cases w : (F 108 k.toNat).toBitVec.getLsbD j = true
      · exfalso
        have w2 : tb F k (j : Int) := w
        by_cases w3 : j < 6
        · have := (ev (j : Int)).mp (grow (j : Int) (by omega) (by omega) w2)
          have w4 : v.toBitVec.getLsbD j = true := this
          rw [w, w4] at j2
          exact j2 rfl
        · exact n k (j : Int) h0 h1 (by omega) (by omega) w2
      · refine ⟨?_, w⟩
        cases h : v.toBitVec.getLsbD j
        · cases h2 : (F 108 k.toNat).toBitVec.getLsbD j
          · rw [h, h2] at j2; exact absurd rfl j2
          · exact absurd h2 w
        · rfl
    have j6 : j < 6 := by have := (b j j1).mp hg.1; omega
    have := cb_lt (p := tbb F) (q := tbb G) (n := 180) (x := 6 * k.toNat + j) tm (by omega) (by
      unfold tbb
      rw [show (6 * k.toNat + j) / 6 = k.toNat by omega, show (6 * k.toNat + j) % 6 = j by omega]
      exact hg.2) (by
      unfold tbb
      rw [show (6 * k.toNat + j) / 6 = k.toNat by omega, show (6 * k.toNat + j) % 6 = j by omega]
      show (if 108 = 108 ∧ k.toNat = k.toNat then v else F 108 k.toNat).toBitVec.getLsbD j = true
      rw [if_pos ⟨rfl, rfl⟩]; exact hg.1)
    unfold tc
    omega
theorem TI1.zero {F : FN} {S : Int} (h : ∀ j : Nat, (j : Int) < 30 → F 108 j = 0) : TI1 F S ∧ TN F := by
  have z : ∀ k j, 0 ≤ k → k < 30 → ¬ tb F k j := fun k j a b q => by
    unfold tb at q
    rw [h _ (by omega)] at q
    have e : (0 : Int32).toBitVec = 0#32 := rfl
    rw [e, BitVec.getLsbD_zero] at q
    exact absurd q (by decide)
  exact ⟨fun k i a b _ _ q => absurd q (z k i a b), fun k j a b _ _ => z k j a b⟩
theorem TI1.ks {F G : FN} {S : Int} (h : KS F G) (t : TI1 F S) : TI1 G S := fun k i a b c d q C cl ho =>
  t k i a b c d ((tb_ks h k i).mp q) C (cl0.mono (KT.ks h) (fun a b q => (tb_ks h a b).mpr q) cl) ho
theorem TN.ks {F G : FN} (h : KS F G) (t : TN F) : TN G := fun k j a b c d q => t k j a b c d ((tb_ks h k j).mp q)
theorem tc_ks {F G : FN} (h : KS F G) : tc G = tc F := by
  have e : ∀ n, tbb G n = tbb F n := fun n => by unfold tbb; rw [h 108 _ (by omega) (by omega) (by omega)]
  unfold tc
  rw [show tbb G = tbb F from funext e]
theorem dX8_goesBack_0 : decode cX8_goesBack 0 = .ok (.aload_n 0, 1) := by decide +kernel
theorem dX8_goesBack_1 : decode cX8_goesBack 1 = .ok (.iconst 1, 1) := by decide +kernel
theorem dX8_goesBack_2 : decode cX8_goesBack 2 = .ok (.iconst 0, 1) := by decide +kernel
theorem dX8_goesBack_3 : decode cX8_goesBack 3 = .ok (.invokevirtual 359, 3) := by decide +kernel
theorem dX8_goesBack_6 : decode cX8_goesBack 6 = .ok (.iconst 0, 1) := by decide +kernel
theorem dX8_goesBack_7 : decode cX8_goesBack 7 = .ok (.istore_n 1, 1) := by decide +kernel
theorem dX8_goesBack_8 : decode cX8_goesBack 8 = .ok (.iload_n 1, 1) := by decide +kernel
theorem dX8_goesBack_9 : decode cX8_goesBack 9 = .ok (.sipush 585, 3) := by decide +kernel
theorem dX8_goesBack_12 : decode cX8_goesBack 12 = .ok (.if_icmp .ge 40, 3) := by decide +kernel
theorem dX8_goesBack_15 : decode cX8_goesBack 15 = .ok (.aload_n 0, 1) := by decide +kernel
theorem dX8_goesBack_16 : decode cX8_goesBack 16 = .ok (.iload_n 1, 1) := by decide +kernel
theorem dX8_goesBack_17 : decode cX8_goesBack 17 = .ok (.invokevirtual 341, 3) := by decide +kernel
theorem dX8_goesBack_20 : decode cX8_goesBack 20 = .ok (.ifCond .ne 6, 3) := by decide +kernel
theorem dX8_goesBack_23 : decode cX8_goesBack 23 = .ok (.goto 23, 3) := by decide +kernel
theorem dX8_goesBack_26 : decode cX8_goesBack 26 = .ok (.aload_n 0, 1) := by decide +kernel
theorem dX8_goesBack_27 : decode cX8_goesBack 27 = .ok (.getfield 130, 3) := by decide +kernel
theorem dX8_goesBack_30 : decode cX8_goesBack 30 = .ok (.aload_n 0, 1) := by decide +kernel
theorem dX8_goesBack_31 : decode cX8_goesBack 31 = .ok (.getfield 344, 3) := by decide +kernel
theorem dX8_goesBack_34 : decode cX8_goesBack 34 = .ok (.iload_n 1, 1) := by decide +kernel
theorem dX8_goesBack_35 : decode cX8_goesBack 35 = .ok (.iastore, 1) := by decide +kernel
theorem dX8_goesBack_36 : decode cX8_goesBack 36 = .ok (.aload_n 0, 1) := by decide +kernel
theorem dX8_goesBack_37 : decode cX8_goesBack 37 = .ok (.dup, 1) := by decide +kernel
theorem dX8_goesBack_38 : decode cX8_goesBack 38 = .ok (.getfield 344, 3) := by decide +kernel
theorem dX8_goesBack_41 : decode cX8_goesBack 41 = .ok (.iconst 1, 1) := by decide +kernel
theorem dX8_goesBack_42 : decode cX8_goesBack 42 = .ok (.iadd, 1) := by decide +kernel
theorem dX8_goesBack_43 : decode cX8_goesBack 43 = .ok (.putfield 344, 3) := by decide +kernel
theorem dX8_goesBack_46 : decode cX8_goesBack 46 = .ok (.iinc 1 1, 3) := by decide +kernel
theorem dX8_goesBack_49 : decode cX8_goesBack 49 = .ok (.goto (-41), 3) := by decide +kernel
theorem dX8_goesBack_52 : decode cX8_goesBack 52 = .ok (.aload_n 0, 1) := by decide +kernel
theorem dX8_goesBack_53 : decode cX8_goesBack 53 = .ok (.iconst 0, 1) := by decide +kernel
theorem dX8_goesBack_54 : decode cX8_goesBack 54 = .ok (.iconst 1, 1) := by decide +kernel
theorem dX8_goesBack_55 : decode cX8_goesBack 55 = .ok (.invokevirtual 359, 3) := by decide +kernel
theorem dX8_goesBack_58 : decode cX8_goesBack 58 = .ok (.return_, 1) := by decide +kernel
theorem dX8_laysThrough_0 : decode cX8_laysThrough 0 = .ok (.iconst 0, 1) := by decide +kernel
theorem dX8_laysThrough_1 : decode cX8_laysThrough 1 = .ok (.istore_n 1, 1) := by decide +kernel
theorem dX8_laysThrough_2 : decode cX8_laysThrough 2 = .ok (.iload_n 1, 1) := by decide +kernel
theorem dX8_laysThrough_3 : decode cX8_laysThrough 3 = .ok (.bipush 30, 2) := by decide +kernel
theorem dX8_laysThrough_5 : decode cX8_laysThrough 5 = .ok (.if_icmp .ge 16, 3) := by decide +kernel
theorem dX8_laysThrough_8 : decode cX8_laysThrough 8 = .ok (.aload_n 0, 1) := by decide +kernel
theorem dX8_laysThrough_9 : decode cX8_laysThrough 9 = .ok (.getfield 124, 3) := by decide +kernel
theorem dX8_laysThrough_12 : decode cX8_laysThrough 12 = .ok (.iload_n 1, 1) := by decide +kernel
theorem dX8_laysThrough_13 : decode cX8_laysThrough 13 = .ok (.iconst 0, 1) := by decide +kernel
theorem dX8_laysThrough_14 : decode cX8_laysThrough 14 = .ok (.iastore, 1) := by decide +kernel
theorem dX8_laysThrough_15 : decode cX8_laysThrough 15 = .ok (.iinc 1 1, 3) := by decide +kernel
theorem dX8_laysThrough_18 : decode cX8_laysThrough 18 = .ok (.goto (-16), 3) := by decide +kernel
theorem dX8_laysThrough_21 : decode cX8_laysThrough 21 = .ok (.iconst 1, 1) := by decide +kernel
theorem dX8_laysThrough_22 : decode cX8_laysThrough 22 = .ok (.istore_n 1, 1) := by decide +kernel
theorem dX8_laysThrough_23 : decode cX8_laysThrough 23 = .ok (.iload_n 1, 1) := by decide +kernel
theorem dX8_laysThrough_24 : decode cX8_laysThrough 24 = .ok (.ifCond .eq 134, 3) := by decide +kernel
theorem dX8_laysThrough_27 : decode cX8_laysThrough 27 = .ok (.iconst 0, 1) := by decide +kernel
theorem dX8_laysThrough_28 : decode cX8_laysThrough 28 = .ok (.istore_n 1, 1) := by decide +kernel
theorem dX8_laysThrough_29 : decode cX8_laysThrough 29 = .ok (.iconst 0, 1) := by decide +kernel
theorem dX8_laysThrough_30 : decode cX8_laysThrough 30 = .ok (.istore_n 2, 1) := by decide +kernel
theorem dX8_laysThrough_31 : decode cX8_laysThrough 31 = .ok (.iload_n 2, 1) := by decide +kernel
theorem dX8_laysThrough_32 : decode cX8_laysThrough 32 = .ok (.bipush 6, 2) := by decide +kernel
theorem dX8_laysThrough_34 : decode cX8_laysThrough 34 = .ok (.aload_n 0, 1) := by decide +kernel
theorem dX8_laysThrough_35 : decode cX8_laysThrough 35 = .ok (.getfield 26, 3) := by decide +kernel
theorem dX8_laysThrough_38 : decode cX8_laysThrough 38 = .ok (.aload_n 0, 1) := by decide +kernel
theorem dX8_laysThrough_39 : decode cX8_laysThrough 39 = .ok (.getfield 187, 3) := by decide +kernel
theorem dX8_laysThrough_42 : decode cX8_laysThrough 42 = .ok (.iaload, 1) := by decide +kernel
theorem dX8_laysThrough_43 : decode cX8_laysThrough 43 = .ok (.imul, 1) := by decide +kernel
theorem dX8_laysThrough_44 : decode cX8_laysThrough 44 = .ok (.if_icmp .ge 111, 3) := by decide +kernel
theorem dX8_laysThrough_47 : decode cX8_laysThrough 47 = .ok (.aload_n 0, 1) := by decide +kernel
theorem dX8_laysThrough_48 : decode cX8_laysThrough 48 = .ok (.invokevirtual 356, 3) := by decide +kernel
theorem dX8_laysThrough_51 : decode cX8_laysThrough 51 = .ok (.aload_n 0, 1) := by decide +kernel
theorem dX8_laysThrough_52 : decode cX8_laysThrough 52 = .ok (.iload_n 2, 1) := by decide +kernel
theorem dX8_laysThrough_53 : decode cX8_laysThrough 53 = .ok (.bipush 6, 2) := by decide +kernel
theorem dX8_laysThrough_55 : decode cX8_laysThrough 55 = .ok (.idiv, 1) := by decide +kernel
theorem dX8_laysThrough_56 : decode cX8_laysThrough 56 = .ok (.bipush 7, 2) := by decide +kernel
theorem dX8_laysThrough_58 : decode cX8_laysThrough 58 = .ok (.iload_n 2, 1) := by decide +kernel
theorem dX8_laysThrough_59 : decode cX8_laysThrough 59 = .ok (.bipush 6, 2) := by decide +kernel
theorem dX8_laysThrough_61 : decode cX8_laysThrough 61 = .ok (.irem, 1) := by decide +kernel
theorem dX8_laysThrough_62 : decode cX8_laysThrough 62 = .ok (.iadd, 1) := by decide +kernel
theorem dX8_laysThrough_63 : decode cX8_laysThrough 63 = .ok (.invokestatic 300, 3) := by decide +kernel
theorem dX8_laysThrough_66 : decode cX8_laysThrough 66 = .ok (.invokevirtual 347, 3) := by decide +kernel
theorem dX8_laysThrough_69 : decode cX8_laysThrough 69 = .ok (.aload_n 0, 1) := by decide +kernel
theorem dX8_laysThrough_70 : decode cX8_laysThrough 70 = .ok (.iconst 0, 1) := by decide +kernel
theorem dX8_laysThrough_71 : decode cX8_laysThrough 71 = .ok (.iconst 0, 1) := by decide +kernel
theorem dX8_laysThrough_72 : decode cX8_laysThrough 72 = .ok (.invokevirtual 359, 3) := by decide +kernel
theorem dX8_laysThrough_75 : decode cX8_laysThrough 75 = .ok (.iconst 0, 1) := by decide +kernel
theorem dX8_laysThrough_76 : decode cX8_laysThrough 76 = .ok (.istore_n 3, 1) := by decide +kernel
theorem dX8_laysThrough_77 : decode cX8_laysThrough 77 = .ok (.iconst 0, 1) := by decide +kernel
theorem dX8_laysThrough_78 : decode cX8_laysThrough 78 = .ok (.istore 4, 2) := by decide +kernel
theorem dX8_laysThrough_80 : decode cX8_laysThrough 80 = .ok (.iload 4, 2) := by decide +kernel
theorem dX8_laysThrough_82 : decode cX8_laysThrough 82 = .ok (.bipush 6, 2) := by decide +kernel
theorem dX8_laysThrough_84 : decode cX8_laysThrough 84 = .ok (.if_icmp .ge 38, 3) := by decide +kernel
theorem dX8_laysThrough_87 : decode cX8_laysThrough 87 = .ok (.iload_n 3, 1) := by decide +kernel
theorem dX8_laysThrough_88 : decode cX8_laysThrough 88 = .ok (.aload_n 0, 1) := by decide +kernel
theorem dX8_laysThrough_89 : decode cX8_laysThrough 89 = .ok (.iload_n 2, 1) := by decide +kernel
theorem dX8_laysThrough_90 : decode cX8_laysThrough 90 = .ok (.bipush 6, 2) := by decide +kernel
theorem dX8_laysThrough_92 : decode cX8_laysThrough 92 = .ok (.idiv, 1) := by decide +kernel
theorem dX8_laysThrough_93 : decode cX8_laysThrough 93 = .ok (.iconst 1, 1) := by decide +kernel
theorem dX8_laysThrough_94 : decode cX8_laysThrough 94 = .ok (.iload 4, 2) := by decide +kernel
theorem dX8_laysThrough_96 : decode cX8_laysThrough 96 = .ok (.iadd, 1) := by decide +kernel
theorem dX8_laysThrough_97 : decode cX8_laysThrough 97 = .ok (.invokestatic 300, 3) := by decide +kernel
theorem dX8_laysThrough_100 : decode cX8_laysThrough 100 = .ok (.invokevirtual 341, 3) := by decide +kernel
theorem dX8_laysThrough_103 : decode cX8_laysThrough 103 = .ok (.ifCond .eq 10, 3) := by decide +kernel
theorem dX8_laysThrough_106 : decode cX8_laysThrough 106 = .ok (.iconst 1, 1) := by decide +kernel
theorem dX8_laysThrough_107 : decode cX8_laysThrough 107 = .ok (.iload 4, 2) := by decide +kernel
theorem dX8_laysThrough_109 : decode cX8_laysThrough 109 = .ok (.ishl, 1) := by decide +kernel
theorem dX8_laysThrough_110 : decode cX8_laysThrough 110 = .ok (.goto 4, 3) := by decide +kernel
theorem dX8_laysThrough_113 : decode cX8_laysThrough 113 = .ok (.iconst 0, 1) := by decide +kernel
theorem dX8_laysThrough_114 : decode cX8_laysThrough 114 = .ok (.ior, 1) := by decide +kernel
theorem dX8_laysThrough_115 : decode cX8_laysThrough 115 = .ok (.istore_n 3, 1) := by decide +kernel
theorem dX8_laysThrough_116 : decode cX8_laysThrough 116 = .ok (.iinc 4 1, 3) := by decide +kernel
theorem dX8_laysThrough_119 : decode cX8_laysThrough 119 = .ok (.goto (-39), 3) := by decide +kernel
theorem dX8_laysThrough_122 : decode cX8_laysThrough 122 = .ok (.iload_n 1, 1) := by decide +kernel
theorem dX8_laysThrough_123 : decode cX8_laysThrough 123 = .ok (.ifCond .ne 13, 3) := by decide +kernel
theorem dX8_laysThrough_126 : decode cX8_laysThrough 126 = .ok (.iload_n 3, 1) := by decide +kernel
theorem dX8_laysThrough_127 : decode cX8_laysThrough 127 = .ok (.aload_n 0, 1) := by decide +kernel
theorem dX8_laysThrough_128 : decode cX8_laysThrough 128 = .ok (.getfield 124, 3) := by decide +kernel
theorem dX8_laysThrough_131 : decode cX8_laysThrough 131 = .ok (.iload_n 2, 1) := by decide +kernel
theorem dX8_laysThrough_132 : decode cX8_laysThrough 132 = .ok (.iaload, 1) := by decide +kernel
theorem dX8_laysThrough_133 : decode cX8_laysThrough 133 = .ok (.if_icmp .eq 7, 3) := by decide +kernel
theorem dX8_laysThrough_136 : decode cX8_laysThrough 136 = .ok (.iconst 1, 1) := by decide +kernel
theorem dX8_laysThrough_137 : decode cX8_laysThrough 137 = .ok (.goto 4, 3) := by decide +kernel
theorem dX8_laysThrough_140 : decode cX8_laysThrough 140 = .ok (.iconst 0, 1) := by decide +kernel
theorem dX8_laysThrough_141 : decode cX8_laysThrough 141 = .ok (.istore_n 1, 1) := by decide +kernel
theorem dX8_laysThrough_142 : decode cX8_laysThrough 142 = .ok (.aload_n 0, 1) := by decide +kernel
theorem dX8_laysThrough_143 : decode cX8_laysThrough 143 = .ok (.getfield 124, 3) := by decide +kernel
theorem dX8_laysThrough_146 : decode cX8_laysThrough 146 = .ok (.iload_n 2, 1) := by decide +kernel
theorem dX8_laysThrough_147 : decode cX8_laysThrough 147 = .ok (.iload_n 3, 1) := by decide +kernel
theorem dX8_laysThrough_148 : decode cX8_laysThrough 148 = .ok (.iastore, 1) := by decide +kernel
theorem dX8_laysThrough_149 : decode cX8_laysThrough 149 = .ok (.iinc 2 1, 3) := by decide +kernel
theorem dX8_laysThrough_152 : decode cX8_laysThrough 152 = .ok (.goto (-121), 3) := by decide +kernel
theorem dX8_laysThrough_155 : decode cX8_laysThrough 155 = .ok (.goto (-132), 3) := by decide +kernel
theorem dX8_laysThrough_158 : decode cX8_laysThrough 158 = .ok (.return_, 1) := by decide +kernel
set_option maxHeartbeats 4000000 in
set_option maxRecDepth 100000 in
theorem s_X8_empties_x (l : Launch) (d : Nat) {P : PP} {h : HP} (hv : Iv P h)  : Mt l yX8_empties cX8_empties 2 none (d + 1) [.ref 70] h 0 0 (fun r h' => r = none ∧ Iv P h' ∧ (EM h'.2.1) ∧ (KS h.2.1 h'.2.1)) := by
  refine Mt_iv hv (by decide) (Nat.le_of_ble_eq_true rfl) ?_
  show Go l RX8 cX8_empties 2 (g_rm (d + 1) 0 0) "empties" none 117 0 0 (fun _ _ => True) (fun r h' => r = none ∧ Iv P h' ∧ (EM h'.2.1) ∧ (KS h.2.1 h'.2.1)) 0 0 [(0, .ref 70)] [] h
  have key : ∀ n : Nat, (∀ (l1 : Int32) (hx : HP), Iv P hx → 0 ≤ l1.toInt → l1.toInt ≤ 19 → (KS h.2.1 hx.2.1) → (∀ j : Nat, (j : Int) < l1.toInt → hx.2.1 109 j = 0) → (3 * (19 - l1.toInt) + 2 : Int) < n → Go l RX8 cX8_empties 2 (g_rm (d + 1) 0 0) "empties" none 117 0 0 (fun _ _ => True) (fun r h' => r = none ∧ Iv P h' ∧ (EM h'.2.1) ∧ (KS h.2.1 h'.2.1)) 0 2 [(0, .ref 70), (1, .int l1)] [] hx) := by
    intro n
    induction n with
    | zero => exact (by intros; omega)
    | succ n ih =>
      refine ?_
      ·
        intro l1 hx hvx l1l l1u x0 x1 hm
        refine go_iload_n (pc := 2) rfl dX8_empties_2 ?_
        refine go_bipush (pc := 3) (v := 19) (by decide) dX8_empties_3 ?_
        refine gf_icmp_ge (pc := 5) (tgt := 21) (ti_rfl l1) (ti_c (v := 19) (a := 19) (by decide)) (by decide) dX8_empties_5 (fun q1 => ?_) (fun q1 => ?_)
        ·
          refine go_aload_n (pc := 21) rfl dX8_empties_21 ?_
          refine go_iconst (pc := 22) (v := 0) (by decide) dX8_empties_22 ?_
          refine gi_put (pc := 23) (lo := 0) (hi := 585) hvx (ti_c (v := 0) (a := 0) (by decide)) (fP_X8_344 _) rfl (Nat.le_of_ble_eq_true rfl) rfl rfl (by omega) (by omega) rfl rfl (by decide) (by decide) (by decide) (by decide) dX8_empties_23 (fun h2 hv2 hv2e => ?_)
          exact gi_vret (pc := 26) ⟨rfl, hv2, (EM.mk (fun j q => by rw [hv2e]; show (if 109 = 70 ∧ j = 47 then 0 else hx.2.1 109 j) = 0; rw [if_neg (by omega)]; exact x1 j (by omega)) (by rw [hv2e]; show (if 70 = 70 ∧ 47 = 47 then (0 : Int32) else hx.2.1 70 47).toInt = 0; rw [if_pos ⟨rfl, rfl⟩]; decide)), (x0.trans (fun c j a b e => by rw [hv2e]; show (if c = 70 ∧ j = 47 then _ else hx.2.1 c j) = _; rw [if_neg e]))⟩ hv2 dX8_empties_26
        ·
          refine go_aload_n (pc := 8) rfl dX8_empties_8 ?_
          refine gi_getF (pc := 9) (q := 109) hvx fL_X8_127 rfl (Nat.le_of_ble_eq_true rfl) rfl (hvx.rf (by decide)) dX8_empties_9 ?_
          refine go_iload_n (pc := 12) rfl dX8_empties_12 ?_
          refine go_iconst (pc := 13) (v := 0) (by decide) dX8_empties_13 ?_
          refine gi_iast (pc := 14) (lo := -2147483648) (hi := 2147483647) (len := 19) hvx (ti_rfl l1) (ti_c (v := 0) (a := 0) (by decide)) rfl (by omega) (by omega) (fun _ => rfl) (ti_ge (ti_c (v := 0) (a := 0) (by decide))) (ti_le2 (ti_c (v := 0) (a := 0) (by decide))) (by decide) dX8_empties_14 (fun h3 hv3 hv3e => ?_)
          refine gf_iinc (pc := 15) (Nat.le_of_ble_eq_true rfl) rfl (ti_rfl l1) (ti_c (by decide)) (by omega) (by omega) dX8_empties_15 (fun v4 e5 => ?_)
          refine go_lv (lv2 := [(0, .ref 70), (1, .int v4)]) rfl ?_
          refine go_goto (pc := 18) (tgt := 2) (by decide) dX8_empties_18 ?_
          have z6 : (v4 : Int32).toInt = (l1.toInt + 1) := e5
          exact go_lv rfl (ih v4 h3 hv3 (by omega) (by omega) (x0.trans (fun c j a b e => by rw [hv3e]; show (if c = 109 ∧ j = _ then _ else hx.2.1 c j) = _; rw [if_neg (by omega)])) (fun j q => by rw [hv3e]; show (if 109 = 109 ∧ j = (l1.toInt).toNat then 0 else hx.2.1 109 j) = 0; by_cases w : j = (l1.toInt).toNat; (rw [if_pos ⟨rfl, w⟩]); (rw [if_neg (by omega)]; exact x1 j (by omega))) (by omega))
  refine go_iconst (pc := 0) (v := 0) (by decide) dX8_empties_0 ?_
  refine go_istore_n (pc := 1) (Nat.le_of_ble_eq_true rfl) dX8_empties_1 (go_lv (lv2 := [(0, .ref 70), (1, .int 0)]) rfl ?_)
  have z7 : (0 : Int32).toInt = 0 := (ti_c (v := 0) (a := 0) (by decide))
  exact go_lv rfl ((key 76) 0 h hv (by omega) (by omega) (KS.rfl _) (fun j q => absurd q (by omega)) (by omega))
set_option maxHeartbeats 4000000 in
set_option maxRecDepth 100000 in
theorem s_X8_goesBack (l : Launch) (d : Nat) {P : PP} {h : HP} (hv : Iv P h) (hw : WT h.2.1 ≤ ct h.2.1 109) (ckf : CKF h.2.1) : Mt l yX8_goesBack cX8_goesBack 2 none (d + 5) [.ref 70] h 0 0 (fun r h' => r = none ∧ Iv P h' ∧ (SU 109 h.2.1 h'.2.1) ∧ (KS h.2.1 h'.2.1)) := by
  refine Mt_iv hv (by decide) (Nat.le_of_ble_eq_true rfl) ?_
  show Go l RX8 cX8_goesBack 2 (g_rm (d + 5) 0 0) "goesBack" none 117 0 0 (fun _ _ => True) (fun r h' => r = none ∧ Iv P h' ∧ (SU 109 h.2.1 h'.2.1) ∧ (KS h.2.1 h'.2.1)) 0 0 [(0, .ref 70)] [] h
  have key : ∀ n : Nat, (∀ (l1 : Int32) (hx : HP), Iv P hx → 0 ≤ l1.toInt → l1.toInt ≤ 585 → (SU 109 h.2.1 hx.2.1) → (KS h.2.1 hx.2.1) → (WT hx.2.1 ≤ (cn hx.2.1 109 l1.toInt.toNat : Int)) → (3 * (585 - l1.toInt) + 2 : Int) < n → Go l RX8 cX8_goesBack 2 (g_rm (d + 5) 0 0) "goesBack" none 117 0 0 (fun _ _ => True) (fun r h' => r = none ∧ Iv P h' ∧ (SU 109 h.2.1 h'.2.1) ∧ (KS h.2.1 h'.2.1)) 0 8 [(0, .ref 70), (1, .int l1)] [] hx) := by
    intro n
    induction n with
    | zero => exact (by intros; omega)
    | succ n ih =>
      refine ?_
      ·
        intro l1 hx hvx l1l l1u x0 x1 x2 hm
        obtain ⟨u70_47, u70_47w⟩ : ∃ v : Int32, v = hx.2.1 70 47 := ⟨_, rfl⟩
        have u70_47e : (hx.2.1 70 47).toInt = u70_47.toInt := by rw [u70_47w]
        have u70_47l : 0 ≤ u70_47.toInt := by rw [u70_47w]; exact (hvx.2.1 70 47).1
        have u70_47u : u70_47.toInt ≤ 585 := by rw [u70_47w]; exact (hvx.2.1 70 47).2
        have c1 := cn_le hx.2.1 109 l1.toInt.toNat
        have hwt : (hx.2.1 70 47).toInt = WT hx.2.1 := rfl
        refine go_iload_n (pc := 8) rfl dX8_goesBack_8 ?_
        refine go_sipush (pc := 9) (v := 585) (by decide) dX8_goesBack_9 ?_
        refine gf_icmp_ge (pc := 12) (tgt := 52) (ti_rfl l1) (ti_c (v := 585) (a := 585) (by decide)) (by decide) dX8_goesBack_12 (fun q1 => ?_) (fun q1 => ?_)
        ·
          refine go_aload_n (pc := 52) rfl dX8_goesBack_52 ?_
          refine go_iconst (pc := 53) (v := 0) (by decide) dX8_goesBack_53 ?_
          refine go_iconst (pc := 54) (v := 1) (by decide) dX8_goesBack_54 ?_
          refine go_invV (pc := 55) (sl := 0) (s_X8_goes l (d + 0) hvx 0 (by rw [show (0 : Int32).toInt = 0 from (ti_c (v := 0) (a := 0) (by decide))]; omega) (by rw [show (0 : Int32).toInt = 0 from (ti_c (v := 0) (a := 0) (by decide))]; omega) 1 (by rw [show (1 : Int32).toInt = 1 from (ti_c (v := 1) (a := 1) (by decide))]; omega) (by rw [show (1 : Int32).toInt = 1 from (ti_c (v := 1) (a := 1) (by decide))]; omega) (by have c := cn_step hx.2.1 109 l1.toInt.toNat 585 (by omega); show WT hx.2.1 ≤ ((cn hx.2.1 109 585 : Nat) : Int); omega) (KS.ckf x1 ckf)) mL_X8_359 iM_X8_goes sM_X8_goes (hvx.sh rfl) rfl rfl rfl (Nat.le_of_ble_eq_true rfl) (show d + 0 + 4 + 1 ≤ d + 5 by omega) (show 8 + (7 + 11) + 40 * (d + 0 + 4) ≤ 40 * (d + 5) by omega) (g_c0 hvx.ln) (Nat.le_of_ble_eq_true rfl) dX8_goesBack_55 ?_
          intro r h2 hq _
          obtain ⟨rfl, hv2, f3, f4⟩ := hq
          try rw [show (0 : Int32).toInt = 0 from (ti_c (v := 0) (a := 0) (by decide))] at f3
          try rw [show (1 : Int32).toInt = 1 from (ti_c (v := 1) (a := 1) (by decide))] at f3
          try rw [show (0 : Int32).toInt = 0 from (ti_c (v := 0) (a := 0) (by decide))] at f4
          try rw [show (1 : Int32).toInt = 1 from (ti_c (v := 1) (a := 1) (by decide))] at f4
          exact gi_vret (pc := 58) ⟨rfl, hv2, (x0.trans f3.2.2.1), (x1.trans f3.2.2.2)⟩ hv2 dX8_goesBack_58
        ·
          refine go_aload_n (pc := 15) rfl dX8_goesBack_15 ?_
          refine go_iload_n (pc := 16) rfl dX8_goesBack_16 ?_
          refine go_invV (pc := 17) (sl := 0) (s_X8_isInSet_x l (d + 3) hvx l1 (by rw [show (l1 : Int32).toInt = l1.toInt from (ti_rfl l1)]; omega) (by rw [show (l1 : Int32).toInt = l1.toInt from (ti_rfl l1)]; omega)) mL_X8_341 iM_X8_isInSet sM_X8_isInSet (hvx.sh rfl) rfl rfl rfl (Nat.le_of_ble_eq_true rfl) (show d + 3 + 1 + 1 ≤ d + 5 by omega) (show 8 + (2 + 11) + 40 * (d + 3 + 1) ≤ 40 * (d + 5) by omega) (g_c0 hvx.ln) (Nat.le_of_ble_eq_true rfl) dX8_goesBack_17 ?_
          intro r h5 hq _
          obtain ⟨v7, rfl, v7l, v7u, rfl, f6⟩ := hq
          refine gf_if_ne (pc := 20) (tgt := 26) (ti_rfl v7) (by decide) dX8_goesBack_20 (fun q8 => ?_) (fun q8 => ?_)
          ·
            refine go_aload_n (pc := 26) rfl dX8_goesBack_26 ?_
            refine gi_getF (pc := 27) (q := 110) hvx fL_X8_130 rfl (Nat.le_of_ble_eq_true rfl) rfl (hvx.rf (by decide)) dX8_goesBack_27 ?_
            refine go_aload_n (pc := 30) rfl dX8_goesBack_30 ?_
            refine gi_get (pc := 31) (lo := 0) (hi := 585) hvx fL_X8_344 rfl (Nat.le_of_ble_eq_true rfl) rfl rfl dX8_goesBack_31 (fun v9 v9l v9u v9w => ?_)
            have v9r : u70_47 = hx.2.1 70 47 := u70_47w
            have v9q : TI v9 u70_47.toInt := by rw [v9w.trans v9r.symm]; exact (ti_rfl u70_47)
            refine go_iload_n (pc := 34) rfl dX8_goesBack_34 ?_
            refine gi_iast (pc := 35) (lo := 0) (hi := 584) (len := 585) hvx v9q (ti_rfl l1) rfl (by omega) (by omega) (fun _ => rfl) (by omega) (by omega) (by decide) dX8_goesBack_35 (fun h10 hv10 hv10e => ?_)
            refine go_aload_n (pc := 36) rfl dX8_goesBack_36 ?_
            refine go_dup (pc := 37) rfl dX8_goesBack_37 ?_
            refine gi_get (pc := 38) (lo := 0) (hi := 585) hv10 fL_X8_344 rfl (Nat.le_of_ble_eq_true rfl) rfl rfl dX8_goesBack_38 (fun v11 v11l v11u v11w => ?_)
            have v11r : u70_47 = h10.2.1 70 47 := (show u70_47 = h10.2.1 70 47 from by rw [hv10e]; exact (g_iI rfl u70_47w.symm).symm)
            have v11q : TI v11 u70_47.toInt := by rw [v11w.trans v11r.symm]; exact (ti_rfl u70_47)
            refine go_iconst (pc := 41) (v := 1) (by decide) dX8_goesBack_41 ?_
            refine gf_iadd (pc := 42) v11q (ti_c (v := 1) (a := 1) (by decide)) (by omega) (by omega) dX8_goesBack_42 (fun v12 e13 => ?_)
            refine gi_put (pc := 43) (lo := 0) (hi := 585) hv10 e13 (fP_X8_344 _) rfl (Nat.le_of_ble_eq_true rfl) rfl rfl (by omega) (by omega) rfl rfl (by decide) (by decide) (by decide) (by decide) dX8_goesBack_43 (fun h14 hv14 hv14e => ?_)
            obtain ⟨p1, p2, p3⟩ := push_step (F := hx.2.1) (x := l1.toInt) (v := l1) (z := v12) (by omega) (by omega) rfl (f6.1 (by omega)) x2 (by omega) (by rw [show (v12 : Int32).toInt = (u70_47.toInt + 1) from e13]; omega)
            have eh : h14.2.1 = (fun p q => if p = 70 ∧ q = 47 then v12 else if p = 110 ∧ q = (WT hx.2.1).toNat then l1 else hx.2.1 p q) := by (rw [hv14e, hv10e, show (WT hx.2.1).toNat = (u70_47.toInt).toNat from by rw [← u70_47e]; rfl]; rfl)
            rw [← eh] at p1 p2 p3
            refine gf_iinc (pc := 46) (Nat.le_of_ble_eq_true rfl) rfl (ti_rfl l1) (ti_c (by decide)) (by omega) (by omega) dX8_goesBack_46 (fun v15 e16 => ?_)
            refine go_lv (lv2 := [(0, .ref 70), (1, .int v15)]) rfl ?_
            refine go_goto (pc := 49) (tgt := 8) (by decide) dX8_goesBack_49 ?_
            have z17 : (v15 : Int32).toInt = (l1.toInt + 1) := e16
            exact go_lv rfl (ih v15 h14 hv14 (by omega) (by omega) (x0.trans p1) (x1.trans p2) (by rw [show (v15 : Int32).toInt = l1.toInt + 1 from e16]; exact p3) (by omega))
          ·
            refine go_goto (pc := 23) (tgt := 46) (by decide) dX8_goesBack_23 ?_
            refine gf_iinc (pc := 46) (Nat.le_of_ble_eq_true rfl) rfl (ti_rfl l1) (ti_c (by decide)) (by omega) (by omega) dX8_goesBack_46 (fun v18 e19 => ?_)
            refine go_lv (lv2 := [(0, .ref 70), (1, .int v18)]) rfl ?_
            refine go_goto (pc := 49) (tgt := 8) (by decide) dX8_goesBack_49 ?_
            have z20 : (v18 : Int32).toInt = (l1.toInt + 1) := e19
            exact go_lv rfl (ih v18 hx hvx (by omega) (by omega) x0 x1 (by rw [show (v18 : Int32).toInt = l1.toInt + 1 from e19]; have z := cn_step hx.2.1 109 l1.toInt.toNat (l1.toInt + 1).toNat (by omega); omega) (by omega))
  refine go_aload_n (pc := 0) rfl dX8_goesBack_0 ?_
  refine go_iconst (pc := 1) (v := 1) (by decide) dX8_goesBack_1 ?_
  refine go_iconst (pc := 2) (v := 0) (by decide) dX8_goesBack_2 ?_
  refine go_invV (pc := 3) (sl := 0) (s_X8_goes l (d + 0) hv 1 (by rw [show (1 : Int32).toInt = 1 from (ti_c (v := 1) (a := 1) (by decide))]; omega) (by rw [show (1 : Int32).toInt = 1 from (ti_c (v := 1) (a := 1) (by decide))]; omega) 0 (by rw [show (0 : Int32).toInt = 0 from (ti_c (v := 0) (a := 0) (by decide))]; omega) (by rw [show (0 : Int32).toInt = 0 from (ti_c (v := 0) (a := 0) (by decide))]; omega) hw ckf) mL_X8_359 iM_X8_goes sM_X8_goes (hv.sh rfl) rfl rfl rfl (Nat.le_of_ble_eq_true rfl) (show d + 0 + 4 + 1 ≤ d + 5 by omega) (show 8 + (7 + 11) + 40 * (d + 0 + 4) ≤ 40 * (d + 5) by omega) (g_c0 hv.ln) (Nat.le_of_ble_eq_true rfl) dX8_goesBack_3 ?_
  intro r h21 hq _
  obtain ⟨rfl, hv21, f22, f23⟩ := hq
  try rw [show (1 : Int32).toInt = 1 from (ti_c (v := 1) (a := 1) (by decide))] at f22
  try rw [show (0 : Int32).toInt = 0 from (ti_c (v := 0) (a := 0) (by decide))] at f22
  try rw [show (1 : Int32).toInt = 1 from (ti_c (v := 1) (a := 1) (by decide))] at f23
  try rw [show (0 : Int32).toInt = 0 from (ti_c (v := 0) (a := 0) (by decide))] at f23
  refine go_iconst (pc := 6) (v := 0) (by decide) dX8_goesBack_6 ?_
  refine go_istore_n (pc := 7) (Nat.le_of_ble_eq_true rfl) dX8_goesBack_7 (go_lv (lv2 := [(0, .ref 70), (1, .int 0)]) rfl ?_)
  have z24 : (0 : Int32).toInt = 0 := (ti_c (v := 0) (a := 0) (by decide))
  exact go_lv rfl ((key 1774) 0 h21 hv21 (by omega) (by omega) f22.2.2.1 f22.2.2.2 (by have z := f23; omega) (by omega))
set_option maxHeartbeats 4000000 in
set_option maxRecDepth 100000 in
theorem s_X8_procedurePlace_x (l : Launch) (d : Nat) {P : PP} {h : HP} (hv : Iv P h) (a1 : Int32) (a1l : 0 ≤ a1.toInt) (a1u : a1.toInt ≤ 4) (a2 : Int32) (a2l : 0 ≤ a2.toInt) (a2u : a2.toInt ≤ 12) : Mt l yX8_procedurePlace cX8_procedurePlace 2 (some .int) (d + 1) [.int a1, .int a2] h 0 0 (fun r h' => ∃ v : Int32, r = some (.int v) ∧ 520 ≤ v.toInt ∧ v.toInt ≤ 584 ∧ h = h' ∧ (v.toInt = 520 + 13 * a1.toInt + a2.toInt)) := by
  refine Mt_iv hv (by decide) (Nat.le_of_ble_eq_true rfl) ?_
  show Go l RX8 cX8_procedurePlace 2 (g_rm (d + 1) 0 0) "procedurePlace" (some .int) 117 0 0 (fun _ _ => True) (fun r h' => ∃ v : Int32, r = some (.int v) ∧ 520 ≤ v.toInt ∧ v.toInt ≤ 584 ∧ h = h' ∧ (v.toInt = 520 + 13 * a1.toInt + a2.toInt)) 0 0 [(0, .int a1), (1, .int a2)] [] h
  refine go_sipush (pc := 0) (v := 520) (by decide) dX8_procedurePlace_0 ?_
  refine go_bipush (pc := 3) (v := 13) (by decide) dX8_procedurePlace_3 ?_
  refine go_iload_n (pc := 5) rfl dX8_procedurePlace_5 ?_
  refine gf_imul (pc := 6) (ti_c (v := 13) (a := 13) (by decide)) (ti_rfl a1) (by omega) (by omega) dX8_procedurePlace_6 (fun v1 e2 => ?_)
  refine gf_iadd (pc := 7) (ti_c (v := 520) (a := 520) (by decide)) e2 (by omega) (by omega) dX8_procedurePlace_7 (fun v3 e4 => ?_)
  refine go_iload_n (pc := 8) rfl dX8_procedurePlace_8 ?_
  refine gf_iadd (pc := 9) e4 (ti_rfl a2) (by omega) (by omega) dX8_procedurePlace_9 (fun v5 e6 => ?_)
  exact gi_iret (pc := 10) e6 ⟨_, rfl, (by rw [show (v5 : Int32).toInt = ((520 + (13 * a1.toInt)) + a2.toInt) from e6]; omega), (by rw [show (v5 : Int32).toInt = ((520 + (13 * a1.toInt)) + a2.toInt) from e6]; omega), rfl, (by have z : (v5 : Int32).toInt = ((520 + (13 * a1.toInt)) + a2.toInt) := e6; omega)⟩ hv dX8_procedurePlace_10
set_option maxHeartbeats 4000000 in
set_option maxRecDepth 100000 in
theorem s_X8_statementPlace_x (l : Launch) (d : Nat) {P : PP} {h : HP} (hv : Iv P h) (a1 : Int32) (a1l : 0 ≤ a1.toInt) (a1u : a1.toInt ≤ 39) (a2 : Int32) (a2l : 0 ≤ a2.toInt) (a2u : a2.toInt ≤ 12) : Mt l yX8_statementPlace cX8_statementPlace 2 (some .int) (d + 1) [.int a1, .int a2] h 0 0 (fun r h' => ∃ v : Int32, r = some (.int v) ∧ 0 ≤ v.toInt ∧ v.toInt ≤ 519 ∧ h = h' ∧ (v.toInt = 13 * a1.toInt + a2.toInt)) := by
  refine Mt_iv hv (by decide) (Nat.le_of_ble_eq_true rfl) ?_
  show Go l RX8 cX8_statementPlace 2 (g_rm (d + 1) 0 0) "statementPlace" (some .int) 117 0 0 (fun _ _ => True) (fun r h' => ∃ v : Int32, r = some (.int v) ∧ 0 ≤ v.toInt ∧ v.toInt ≤ 519 ∧ h = h' ∧ (v.toInt = 13 * a1.toInt + a2.toInt)) 0 0 [(0, .int a1), (1, .int a2)] [] h
  refine go_bipush (pc := 0) (v := 13) (by decide) dX8_statementPlace_0 ?_
  refine go_iload_n (pc := 2) rfl dX8_statementPlace_2 ?_
  refine gf_imul (pc := 3) (ti_c (v := 13) (a := 13) (by decide)) (ti_rfl a1) (by omega) (by omega) dX8_statementPlace_3 (fun v1 e2 => ?_)
  refine go_iload_n (pc := 4) rfl dX8_statementPlace_4 ?_
  refine gf_iadd (pc := 5) e2 (ti_rfl a2) (by omega) (by omega) dX8_statementPlace_5 (fun v3 e4 => ?_)
  exact gi_iret (pc := 6) e4 ⟨_, rfl, (by rw [show (v3 : Int32).toInt = ((13 * a1.toInt) + a2.toInt) from e4]; omega), (by rw [show (v3 : Int32).toInt = ((13 * a1.toInt) + a2.toInt) from e4]; omega), rfl, (by have z : (v3 : Int32).toInt = ((13 * a1.toInt) + a2.toInt) := e4; omega)⟩ hv dX8_statementPlace_6
set_option maxHeartbeats 4000000 in
set_option maxRecDepth 100000 in
theorem s_X8_laysThrough (l : Launch) (d : Nat) {P : PP} {h : HP} (hv : Iv P h) (ckf : CKF h.2.1) : Mt l yX8_laysThrough cX8_laysThrough 5 none (d + 5) [.ref 70] h 0 0 (fun r h' => r = none ∧ Iv P h' ∧ (KT h.2.1 h'.2.1)) := by
  refine Mt_iv hv (by decide) (Nat.le_of_ble_eq_true rfl) ?_
  show Go l RX8 cX8_laysThrough 5 (g_rm (d + 5) 0 0) "laysThrough" none 117 0 0 (fun _ _ => True) (fun r h' => r = none ∧ Iv P h' ∧ (KT h.2.1 h'.2.1)) 0 0 [(0, .ref 70)] [] h
  obtain ⟨S, hS⟩ : ∃ S : Int, S = (h.2.1 70 6).toInt := ⟨_, rfl⟩
  have S0 : 0 ≤ S := by rw [hS]; exact (hv.2.1 70 6).1
  have S1 : S ≤ 1 := by rw [hS]; exact (hv.2.1 70 6).2
  have key : ∀ n : Nat, (∀ (l1 : Int32) (hx : HP), Iv P hx → 0 ≤ l1.toInt → l1.toInt ≤ 30 → (KT h.2.1 hx.2.1) → (∀ j : Nat, (j : Int) < l1.toInt → hx.2.1 108 j = 0) → (1000000 + (30 - l1.toInt) : Int) < n → Go l RX8 cX8_laysThrough 5 (g_rm (d + 5) 0 0) "laysThrough" none 117 0 0 (fun _ _ => True) (fun r h' => r = none ∧ Iv P h' ∧ (KT h.2.1 h'.2.1)) 0 2 [(0, .ref 70), (1, .int l1)] [] hx) ∧ (∀ (l1 : Int32) (hx : HP), Iv P hx → 0 ≤ l1.toInt → l1.toInt ≤ 1 → (KT h.2.1 hx.2.1) → (TI1 hx.2.1 S ∧ TN hx.2.1) → (0 ≤ tc hx.2.1 ∧ tc hx.2.1 ≤ 180) → (1000 * (180 - tc hx.2.1) + 1000 * l1.toInt + 500 : Int) < n → Go l RX8 cX8_laysThrough 5 (g_rm (d + 5) 0 0) "laysThrough" none 117 0 0 (fun _ _ => True) (fun r h' => r = none ∧ Iv P h' ∧ (KT h.2.1 h'.2.1)) 0 23 [(0, .ref 70), (1, .int l1)] [] hx) ∧ (∀ (l1 : Int32) (l2 : Int32) (hx : HP), Iv P hx → 0 ≤ l1.toInt → l1.toInt ≤ 1 → 0 ≤ l2.toInt → l2.toInt ≤ 30 → (KT h.2.1 hx.2.1) → (TI1 hx.2.1 S ∧ TN hx.2.1) → (0 ≤ tc hx.2.1 ∧ tc hx.2.1 ≤ 180) → (1000 * (180 - tc hx.2.1) + 1000 * l1.toInt + 600 + 10 * (30 - l2.toInt) : Int) < n → Go l RX8 cX8_laysThrough 5 (g_rm (d + 5) 0 0) "laysThrough" none 117 0 0 (fun _ _ => True) (fun r h' => r = none ∧ Iv P h' ∧ (KT h.2.1 h'.2.1)) 0 31 [(0, .ref 70), (1, .int l1), (2, .int l2)] [] hx) ∧ (∀ (l1 : Int32) (l2 : Int32) (l3 : Int32) (l4 : Int32) (hx : HP), Iv P hx → 0 ≤ l1.toInt → l1.toInt ≤ 1 → 0 ≤ l2.toInt → l2.toInt ≤ 29 → 0 ≤ l4.toInt → l4.toInt ≤ 6 → (KT h.2.1 hx.2.1) → (TI1 hx.2.1 S ∧ TN hx.2.1) → (0 ≤ tc hx.2.1 ∧ tc hx.2.1 ≤ 180) → (TS hx.2.1 S l2.toInt) → (BI hx.2.1 l2.toInt l4.toInt l3) → (1000 * (180 - tc hx.2.1) + 1000 * l1.toInt + 600 + 10 * (30 - l2.toInt) - 9 + (6 - l4.toInt) : Int) < n → Go l RX8 cX8_laysThrough 5 (g_rm (d + 5) 0 0) "laysThrough" none 117 0 0 (fun _ _ => True) (fun r h' => r = none ∧ Iv P h' ∧ (KT h.2.1 h'.2.1)) 0 80 [(0, .ref 70), (1, .int l1), (2, .int l2), (3, .int l3), (4, .int l4)] [] hx) := by
    intro n
    induction n with
    | zero => exact ⟨(by intros; omega), (by intros; omega), (by intros; omega), (by intros; omega)⟩
    | succ n ih =>
      refine ⟨?_, ?_, ?_, ?_⟩
      ·
        intro l1 hx hvx l1l l1u x0 x1 hm
        have tcz := tc_lo hx.2.1
        refine go_iload_n (pc := 2) rfl dX8_laysThrough_2 ?_
        refine go_bipush (pc := 3) (v := 30) (by decide) dX8_laysThrough_3 ?_
        refine gf_icmp_ge (pc := 5) (tgt := 21) (ti_rfl l1) (ti_c (v := 30) (a := 30) (by decide)) (by decide) dX8_laysThrough_5 (fun q1 => ?_) (fun q1 => ?_)
        ·
          refine go_iconst (pc := 21) (v := 1) (by decide) dX8_laysThrough_21 ?_
          refine go_istore_n (pc := 22) (Nat.le_of_ble_eq_true rfl) dX8_laysThrough_22 (go_lv (lv2 := [(0, .ref 70), (1, .int 1)]) rfl ?_)
          have z2 : (1 : Int32).toInt = 1 := (ti_c (v := 1) (a := 1) (by decide))
          exact go_lv rfl (ih.2.1 1 hx hvx (by omega) (by omega) x0 (TI1.zero (fun j q => x1 j (by omega))) ⟨tc_lo _, tc_hi _⟩ (by omega))
        ·
          refine go_aload_n (pc := 8) rfl dX8_laysThrough_8 ?_
          refine gi_getF (pc := 9) (q := 108) hvx fL_X8_124 rfl (Nat.le_of_ble_eq_true rfl) rfl (hvx.rf (by decide)) dX8_laysThrough_9 ?_
          refine go_iload_n (pc := 12) rfl dX8_laysThrough_12 ?_
          refine go_iconst (pc := 13) (v := 0) (by decide) dX8_laysThrough_13 ?_
          refine gi_iast (pc := 14) (lo := -2147483648) (hi := 2147483647) (len := 30) hvx (ti_rfl l1) (ti_c (v := 0) (a := 0) (by decide)) rfl (by omega) (by omega) (fun _ => rfl) (ti_ge (ti_c (v := 0) (a := 0) (by decide))) (ti_le2 (ti_c (v := 0) (a := 0) (by decide))) (by decide) dX8_laysThrough_14 (fun h3 hv3 hv3e => ?_)
          refine gf_iinc (pc := 15) (Nat.le_of_ble_eq_true rfl) rfl (ti_rfl l1) (ti_c (by decide)) (by omega) (by omega) dX8_laysThrough_15 (fun v4 e5 => ?_)
          refine go_lv (lv2 := [(0, .ref 70), (1, .int v4)]) rfl ?_
          refine go_goto (pc := 18) (tgt := 2) (by decide) dX8_laysThrough_18 ?_
          have z6 : (v4 : Int32).toInt = (l1.toInt + 1) := e5
          exact go_lv rfl (ih.1 v4 h3 hv3 (by omega) (by omega) (x0.trans (fun c j a b d e => by rw [hv3e]; show (if c = 108 ∧ j = _ then _ else hx.2.1 c j) = _; rw [if_neg (by omega)])) (fun j q => by rw [hv3e]; show (if 108 = 108 ∧ j = (l1.toInt).toNat then 0 else hx.2.1 108 j) = 0; by_cases w : j = (l1.toInt).toNat; (rw [if_pos ⟨rfl, w⟩]); (rw [if_neg (by omega)]; exact x1 j (by omega))) (by omega))
      ·
        intro l1 hx hvx l1l l1u x0 x1 x2 hm
        refine go_iload_n (pc := 23) rfl dX8_laysThrough_23 ?_
        refine gf_if_eq (pc := 24) (tgt := 158) (ti_rfl l1) (by decide) dX8_laysThrough_24 (fun q7 => ?_) (fun q7 => ?_)
        ·
          exact gi_vret (pc := 158) ⟨rfl, hvx, x0⟩ hvx dX8_laysThrough_158
        ·
          refine go_iconst (pc := 27) (v := 0) (by decide) dX8_laysThrough_27 ?_
          refine go_istore_n (pc := 28) (Nat.le_of_ble_eq_true rfl) dX8_laysThrough_28 (go_lv (lv2 := [(0, .ref 70), (1, .int 0)]) rfl ?_)
          refine go_iconst (pc := 29) (v := 0) (by decide) dX8_laysThrough_29 ?_
          refine go_istore_n (pc := 30) (Nat.le_of_ble_eq_true rfl) dX8_laysThrough_30 (go_lv (lv2 := [(0, .ref 70), (1, .int 0), (2, .int 0)]) rfl ?_)
          have z8 : (0 : Int32).toInt = 0 := (ti_c (v := 0) (a := 0) (by decide))
          have z9 : (0 : Int32).toInt = 0 := (ti_c (v := 0) (a := 0) (by decide))
          exact go_lv rfl (ih.2.2.1 0 0 hx hvx (by omega) (by omega) (by omega) (by omega) x0 x1 ⟨tc_lo _, tc_hi _⟩ (by omega))
      ·
        intro l1 l2 hx hvx l1l l1u l2l l2u x0 x1 x2 hm
        refine go_iload_n (pc := 31) rfl dX8_laysThrough_31 ?_
        refine go_bipush (pc := 32) (v := 6) (by decide) dX8_laysThrough_32 ?_
        refine go_aload_n (pc := 34) rfl dX8_laysThrough_34 ?_
        refine gi_getF (pc := 35) (q := 76) hvx fL_X8_26 rfl (Nat.le_of_ble_eq_true rfl) rfl (hvx.rf (by decide)) dX8_laysThrough_35 ?_
        refine go_aload_n (pc := 38) rfl dX8_laysThrough_38 ?_
        refine gi_get (pc := 39) (lo := 0) (hi := 1) hvx fL_X8_187 rfl (Nat.le_of_ble_eq_true rfl) rfl rfl dX8_laysThrough_39 (fun v10 v10l v10u v10w => ?_)
        have v10S : v10.toInt = S := by rw [v10w, hvx.fy (j := 6) (by omega), ← hv.fy (j := 6) (by omega)]; exact hS.symm
        refine gi_iald (pc := 42) (lo := 0) (hi := 5) (len := 2) hvx (ti_rfl v10) rfl (by omega) (by omega) (fun _ => rfl) dX8_laysThrough_42 (fun v11 v11l v11u v11w => ?_)
        have v11V : v11.toInt = V h.2.1 76 S := by rw [v11w, v10S, hvx.fz (c := 76) (by omega) (by omega), ← hv.fz (c := 76) (by omega) (by omega)]; rfl
        refine gf_imul (pc := 43) (ti_c (v := 6) (a := 6) (by decide)) (ti_rfl v11) (by omega) (by omega) dX8_laysThrough_43 (fun v12 e13 => ?_)
        refine gf_icmp_ge (pc := 44) (tgt := 155) (ti_rfl l2) e13 (by decide) dX8_laysThrough_44 (fun q14 => ?_) (fun q14 => ?_)
        ·
          refine go_goto (pc := 155) (tgt := 23) (by decide) dX8_laysThrough_155 ?_
          exact go_lv rfl (ih.2.1 l1 hx hvx (by omega) (by omega) x0 x1 ⟨tc_lo _, tc_hi _⟩ (by omega))
        ·
          refine go_aload_n (pc := 47) rfl dX8_laysThrough_47 ?_
          refine go_invV (pc := 48) (sl := 0) (s_X8_empties_x l (d + 3) hvx ) mL_X8_356 iM_X8_empties sM_X8_empties (hvx.sh rfl) rfl rfl rfl (Nat.le_of_ble_eq_true rfl) (show d + 3 + 1 + 1 ≤ d + 5 by omega) (show 8 + (2 + 11) + 40 * (d + 3 + 1) ≤ 40 * (d + 5) by omega) (g_c0 hvx.ln) (Nat.le_of_ble_eq_true rfl) dX8_laysThrough_48 ?_
          intro r h15 hq _
          obtain ⟨rfl, hv15, f16, f17⟩ := hq
          refine go_aload_n (pc := 51) rfl dX8_laysThrough_51 ?_
          refine go_iload_n (pc := 52) rfl dX8_laysThrough_52 ?_
          refine go_bipush (pc := 53) (v := 6) (by decide) dX8_laysThrough_53 ?_
          refine gf_idiv (pc := 55) (ti_rfl l2) (ti_c (v := 6) (a := 6) (by decide)) (by omega) (by omega) dX8_laysThrough_55 (fun v18 e19 => ?_)
          refine go_bipush (pc := 56) (v := 7) (by decide) dX8_laysThrough_56 ?_
          refine go_iload_n (pc := 58) rfl dX8_laysThrough_58 ?_
          refine go_bipush (pc := 59) (v := 6) (by decide) dX8_laysThrough_59 ?_
          refine gf_irem (pc := 61) (ti_rfl l2) (ti_c (v := 6) (a := 6) (by decide)) (by omega) (by omega) dX8_laysThrough_61 (fun v20 e21 => ?_)
          refine gf_iadd (pc := 62) (ti_c (v := 7) (a := 7) (by decide)) e21 (by omega) (by omega) dX8_laysThrough_62 (fun v22 e23 => ?_)
          refine go_invS (pc := 63) (sl := 0) (s_X8_procedurePlace_x l (d + 3) hv15 v18 (by rw [show (v18 : Int32).toInt = (l2.toInt / 6) from e19]; omega) (by rw [show (v18 : Int32).toInt = (l2.toInt / 6) from e19]; omega) v22 (by rw [show (v22 : Int32).toInt = (7 + (l2.toInt % 6)) from e23]; omega) (by rw [show (v22 : Int32).toInt = (7 + (l2.toInt % 6)) from e23]; omega)) mL_X8_300 iM_X8_procedurePlace rfl rfl (Nat.le_of_ble_eq_true rfl) (show d + 3 + 1 + 1 ≤ d + 5 by omega) (show 8 + (2 + 11) + 40 * (d + 3 + 1) ≤ 40 * (d + 5) by omega) (g_c0 hv15.ln) (Nat.le_of_ble_eq_true rfl) dX8_laysThrough_63 ?_
          intro r h24 hq _
          obtain ⟨v26, rfl, v26l, v26u, rfl, f25⟩ := hq
          try rw [show (v18 : Int32).toInt = (l2.toInt / 6) from e19] at f25
          try rw [show (v22 : Int32).toInt = (7 + (l2.toInt % 6)) from e23] at f25
          have eo : v26.toInt = OUTP l2.toInt := by unfold OUTP; omega
          refine go_invV (pc := 66) (sl := 0) (s_X8_reach l (d + 2) hv15 v26 (by rw [show (v26 : Int32).toInt = v26.toInt from (ti_rfl v26)]; omega) (by rw [show (v26 : Int32).toInt = v26.toInt from (ti_rfl v26)]; omega) (EM.hw f16)) mL_X8_347 iM_X8_reach sM_X8_reach (hv15.sh rfl) rfl rfl rfl (Nat.le_of_ble_eq_true rfl) (show d + 2 + 2 + 1 ≤ d + 5 by omega) (show 8 + (2 + 11) + 40 * (d + 2 + 2) ≤ 40 * (d + 5) by omega) (g_c0 hv15.ln) (Nat.le_of_ble_eq_true rfl) dX8_laysThrough_66 ?_
          intro r h27 hq _
          obtain ⟨rfl, hv27, f28⟩ := hq
          refine go_aload_n (pc := 69) rfl dX8_laysThrough_69 ?_
          refine go_iconst (pc := 70) (v := 0) (by decide) dX8_laysThrough_70 ?_
          refine go_iconst (pc := 71) (v := 0) (by decide) dX8_laysThrough_71 ?_
          have rc0 := f28
          rw [eo] at rc0
          have eb : 0 ≤ OUTP l2.toInt ∧ OUTP l2.toInt < 585 := by unfold OUTP; omega
          have fc := EM.fc (S := S) f16 rc0 eb.1 eb.2
          have ks2 : KS hx.2.1 h27.2.1 := f17.trans rc0.2.2
          have sM29 : (h27.2.1 70 6).toInt = S := by rw [hv27.fy (j := 6) (by omega), ← hv.fy (j := 6) (by omega)]; exact hS.symm
          refine go_invV (pc := 72) (sl := 0) (s_X8_goes_ff l (d + 0) hv27 0 (by rw [show (0 : Int32).toInt = 0 from (ti_c (v := 0) (a := 0) (by decide))]; omega) (by rw [show (0 : Int32).toInt = 0 from (ti_c (v := 0) (a := 0) (by decide))]; omega) 0 (by rw [show (0 : Int32).toInt = 0 from (ti_c (v := 0) (a := 0) (by decide))]; omega) (by rw [show (0 : Int32).toInt = 0 from (ti_c (v := 0) (a := 0) (by decide))]; omega) fc.1 (CKF.ve ((x0.trans (KT.ks ks2)).ve) ckf) (by rw [sM29]; exact fc.2)) mL_X8_359 iM_X8_goes sM_X8_goes (hv27.sh rfl) rfl rfl rfl (Nat.le_of_ble_eq_true rfl) (show d + 0 + 4 + 1 ≤ d + 5 by omega) (show 8 + (7 + 11) + 40 * (d + 0 + 4) ≤ 40 * (d + 5) by omega) (g_c0 hv27.ln) (Nat.le_of_ble_eq_true rfl) dX8_laysThrough_72 ?_
          intro r h30 hq _
          obtain ⟨rfl, hv30, f31⟩ := hq
          rw [sM29] at f31
          try rw [show (0 : Int32).toInt = 0 from (ti_c (v := 0) (a := 0) (by decide))] at f31
          try rw [show (0 : Int32).toInt = 0 from (ti_c (v := 0) (a := 0) (by decide))] at f31
          have ks3 : KS hx.2.1 h30.2.1 := ks2.trans f31.2.2.2
          have ts := TS.mk f16 rc0 (by omega) (by omega) f31
          have tcq := tc_ks ks3
          refine go_iconst (pc := 75) (v := 0) (by decide) dX8_laysThrough_75 ?_
          refine go_istore_n (pc := 76) (Nat.le_of_ble_eq_true rfl) dX8_laysThrough_76 (go_lv (lv2 := [(0, .ref 70), (1, .int l1), (2, .int l2), (3, .int 0)]) rfl ?_)
          refine go_iconst (pc := 77) (v := 0) (by decide) dX8_laysThrough_77 ?_
          refine go_istore (pc := 78) (Nat.le_of_ble_eq_true rfl) dX8_laysThrough_78 (go_lv (lv2 := [(0, .ref 70), (1, .int l1), (2, .int l2), (3, .int 0), (4, .int 0)]) rfl ?_)
          have z32 : (0 : Int32).toInt = 0 := (ti_c (v := 0) (a := 0) (by decide))
          have z33 : (0 : Int32).toInt = 0 := (ti_c (v := 0) (a := 0) (by decide))
          exact go_lv rfl (ih.2.2.2 l1 l2 0 0 h30 hv30 (by omega) (by omega) (by omega) (by omega) (by omega) (by omega) (x0.trans (KT.ks ks3)) ⟨TI1.ks ks3 x1.1, TN.ks ks3 x1.2⟩ ⟨tc_lo _, tc_hi _⟩ ts (by have e0 : (0 : Int32).toInt = 0 := (by decide); rw [e0]; exact BI.zero _ _) (by omega))
      ·
        intro l1 l2 l3 l4 hx hvx l1l l1u l2l l2u l4l l4u x0 x1 x2 x3 x4 hm
        refine go_iload (pc := 80) rfl dX8_laysThrough_80 ?_
        refine go_bipush (pc := 82) (v := 6) (by decide) dX8_laysThrough_82 ?_
        refine gf_icmp_ge (pc := 84) (tgt := 122) (ti_rfl l4) (ti_c (v := 6) (a := 6) (by decide)) (by decide) dX8_laysThrough_84 (fun q34 => ?_) (fun q34 => ?_)
        ·
          refine go_iload_n (pc := 122) rfl dX8_laysThrough_122 ?_
          refine gf_if_ne (pc := 123) (tgt := 136) (ti_rfl l1) (by decide) dX8_laysThrough_123 (fun q35 => ?_) (fun q35 => ?_)
          ·
            refine go_iconst (pc := 136) (v := 1) (by decide) dX8_laysThrough_136 ?_
            refine go_goto (pc := 137) (tgt := 141) (by decide) dX8_laysThrough_137 ?_
            refine go_istore_n (pc := 141) (Nat.le_of_ble_eq_true rfl) dX8_laysThrough_141 (go_lv (lv2 := [(0, .ref 70), (1, .int 1), (2, .int l2), (3, .int l3), (4, .int l4)]) rfl ?_)
            refine go_aload_n (pc := 142) rfl dX8_laysThrough_142 ?_
            refine gi_getF (pc := 143) (q := 108) hvx fL_X8_124 rfl (Nat.le_of_ble_eq_true rfl) rfl (hvx.rf (by decide)) dX8_laysThrough_143 ?_
            refine go_iload_n (pc := 146) rfl dX8_laysThrough_146 ?_
            refine go_iload_n (pc := 147) rfl dX8_laysThrough_147 ?_
            refine gi_iast (pc := 148) (lo := -2147483648) (hi := 2147483647) (len := 30) hvx (ti_rfl l2) (ti_rfl l3) rfl (by omega) (by omega) (fun _ => rfl) (ti_ge (ti_rfl l3)) (ti_le2 (ti_rfl l3)) (by decide) dX8_laysThrough_148 (fun h36 hv36 hv36e => ?_)
            have b6 : BI hx.2.1 l2.toInt 6 l3 := by have z := x4; rw [show l4.toInt = 6 by omega] at z; exact z
            obtain ⟨t1, t2, t3, t4, t5⟩ := TI1.step (by omega) (by omega) x1.1 x1.2 x3 b6
            have eh : h36.2.1 = (fun p q => if p = 108 ∧ q = (l2.toInt).toNat then l3 else hx.2.1 p q) := by rw [hv36e]; rfl
            rw [← eh] at t1 t2 t3 t4 t5
            have smx := tc_hi h36.2.1
            refine gf_iinc (pc := 149) (Nat.le_of_ble_eq_true rfl) rfl (ti_rfl l2) (ti_c (by decide)) (by omega) (by omega) dX8_laysThrough_149 (fun v37 e38 => ?_)
            refine go_lv (lv2 := [(0, .ref 70), (1, .int 1), (2, .int v37), (3, .int l3), (4, .int l4)]) rfl ?_
            refine go_goto (pc := 152) (tgt := 31) (by decide) dX8_laysThrough_152 ?_
            have z39 : (1 : Int32).toInt = 1 := (ti_c (v := 1) (a := 1) (by decide))
            have z40 : (v37 : Int32).toInt = (l2.toInt + 1) := e38
            exact go_lv rfl (ih.2.2.1 1 v37 h36 hv36 (by omega) (by omega) (by omega) (by omega) (x0.trans t5) ⟨t1, t2⟩ ⟨tc_lo _, tc_hi _⟩ (by omega))
          ·
            refine go_iload_n (pc := 126) rfl dX8_laysThrough_126 ?_
            refine go_aload_n (pc := 127) rfl dX8_laysThrough_127 ?_
            refine gi_getF (pc := 128) (q := 108) hvx fL_X8_124 rfl (Nat.le_of_ble_eq_true rfl) rfl (hvx.rf (by decide)) dX8_laysThrough_128 ?_
            refine go_iload_n (pc := 131) rfl dX8_laysThrough_131 ?_
            refine gi_iald (pc := 132) (lo := -2147483648) (hi := 2147483647) (len := 30) hvx (ti_rfl l2) rfl (by omega) (by omega) (fun _ => rfl) dX8_laysThrough_132 (fun v41 v41l v41u v41w => ?_)
            refine gf_icmp_eq (pc := 133) (tgt := 140) (ti_rfl l3) (ti_rfl v41) (by decide) dX8_laysThrough_133 (fun q42 => ?_) (fun q42 => ?_)
            ·
              refine go_iconst (pc := 140) (v := 0) (by decide) dX8_laysThrough_140 ?_
              refine go_istore_n (pc := 141) (Nat.le_of_ble_eq_true rfl) dX8_laysThrough_141 (go_lv (lv2 := [(0, .ref 70), (1, .int 0), (2, .int l2), (3, .int l3), (4, .int l4)]) rfl ?_)
              refine go_aload_n (pc := 142) rfl dX8_laysThrough_142 ?_
              refine gi_getF (pc := 143) (q := 108) hvx fL_X8_124 rfl (Nat.le_of_ble_eq_true rfl) rfl (hvx.rf (by decide)) dX8_laysThrough_143 ?_
              refine go_iload_n (pc := 146) rfl dX8_laysThrough_146 ?_
              refine go_iload_n (pc := 147) rfl dX8_laysThrough_147 ?_
              refine gi_iast (pc := 148) (lo := -2147483648) (hi := 2147483647) (len := 30) hvx (ti_rfl l2) (ti_rfl l3) rfl (by omega) (by omega) (fun _ => rfl) (ti_ge (ti_rfl l3)) (ti_le2 (ti_rfl l3)) (by decide) dX8_laysThrough_148 (fun h43 hv43 hv43e => ?_)
              have b6 : BI hx.2.1 l2.toInt 6 l3 := by have z := x4; rw [show l4.toInt = 6 by omega] at z; exact z
              obtain ⟨t1, t2, t3, t4, t5⟩ := TI1.step (by omega) (by omega) x1.1 x1.2 x3 b6
              have eh : h43.2.1 = (fun p q => if p = 108 ∧ q = (l2.toInt).toNat then l3 else hx.2.1 p q) := by rw [hv43e]; rfl
              rw [← eh] at t1 t2 t3 t4 t5
              have smx := tc_hi h43.2.1
              have t6 : ¬ l3.toInt = v41.toInt → tc hx.2.1 + 1 ≤ tc h43.2.1 := fun q => t4 (fun z => q (by rw [z, v41w]))
              refine gf_iinc (pc := 149) (Nat.le_of_ble_eq_true rfl) rfl (ti_rfl l2) (ti_c (by decide)) (by omega) (by omega) dX8_laysThrough_149 (fun v44 e45 => ?_)
              refine go_lv (lv2 := [(0, .ref 70), (1, .int 0), (2, .int v44), (3, .int l3), (4, .int l4)]) rfl ?_
              refine go_goto (pc := 152) (tgt := 31) (by decide) dX8_laysThrough_152 ?_
              have z46 : (0 : Int32).toInt = 0 := (ti_c (v := 0) (a := 0) (by decide))
              have z47 : (v44 : Int32).toInt = (l2.toInt + 1) := e45
              exact go_lv rfl (ih.2.2.1 0 v44 h43 hv43 (by omega) (by omega) (by omega) (by omega) (x0.trans t5) ⟨t1, t2⟩ ⟨tc_lo _, tc_hi _⟩ (by omega))
            ·
              refine go_iconst (pc := 136) (v := 1) (by decide) dX8_laysThrough_136 ?_
              refine go_goto (pc := 137) (tgt := 141) (by decide) dX8_laysThrough_137 ?_
              refine go_istore_n (pc := 141) (Nat.le_of_ble_eq_true rfl) dX8_laysThrough_141 (go_lv (lv2 := [(0, .ref 70), (1, .int 1), (2, .int l2), (3, .int l3), (4, .int l4)]) rfl ?_)
              refine go_aload_n (pc := 142) rfl dX8_laysThrough_142 ?_
              refine gi_getF (pc := 143) (q := 108) hvx fL_X8_124 rfl (Nat.le_of_ble_eq_true rfl) rfl (hvx.rf (by decide)) dX8_laysThrough_143 ?_
              refine go_iload_n (pc := 146) rfl dX8_laysThrough_146 ?_
              refine go_iload_n (pc := 147) rfl dX8_laysThrough_147 ?_
              refine gi_iast (pc := 148) (lo := -2147483648) (hi := 2147483647) (len := 30) hvx (ti_rfl l2) (ti_rfl l3) rfl (by omega) (by omega) (fun _ => rfl) (ti_ge (ti_rfl l3)) (ti_le2 (ti_rfl l3)) (by decide) dX8_laysThrough_148 (fun h48 hv48 hv48e => ?_)
              have b6 : BI hx.2.1 l2.toInt 6 l3 := by have z := x4; rw [show l4.toInt = 6 by omega] at z; exact z
              obtain ⟨t1, t2, t3, t4, t5⟩ := TI1.step (by omega) (by omega) x1.1 x1.2 x3 b6
              have eh : h48.2.1 = (fun p q => if p = 108 ∧ q = (l2.toInt).toNat then l3 else hx.2.1 p q) := by rw [hv48e]; rfl
              rw [← eh] at t1 t2 t3 t4 t5
              have smx := tc_hi h48.2.1
              have t6 : ¬ l3.toInt = v41.toInt → tc hx.2.1 + 1 ≤ tc h48.2.1 := fun q => t4 (fun z => q (by rw [z, v41w]))
              refine gf_iinc (pc := 149) (Nat.le_of_ble_eq_true rfl) rfl (ti_rfl l2) (ti_c (by decide)) (by omega) (by omega) dX8_laysThrough_149 (fun v49 e50 => ?_)
              refine go_lv (lv2 := [(0, .ref 70), (1, .int 1), (2, .int v49), (3, .int l3), (4, .int l4)]) rfl ?_
              refine go_goto (pc := 152) (tgt := 31) (by decide) dX8_laysThrough_152 ?_
              have z51 : (1 : Int32).toInt = 1 := (ti_c (v := 1) (a := 1) (by decide))
              have z52 : (v49 : Int32).toInt = (l2.toInt + 1) := e50
              exact go_lv rfl (ih.2.2.1 1 v49 h48 hv48 (by omega) (by omega) (by omega) (by omega) (x0.trans t5) ⟨t1, t2⟩ ⟨tc_lo _, tc_hi _⟩ (by omega))
        ·
          refine go_iload_n (pc := 87) rfl dX8_laysThrough_87 ?_
          refine go_aload_n (pc := 88) rfl dX8_laysThrough_88 ?_
          refine go_iload_n (pc := 89) rfl dX8_laysThrough_89 ?_
          refine go_bipush (pc := 90) (v := 6) (by decide) dX8_laysThrough_90 ?_
          refine gf_idiv (pc := 92) (ti_rfl l2) (ti_c (v := 6) (a := 6) (by decide)) (by omega) (by omega) dX8_laysThrough_92 (fun v53 e54 => ?_)
          refine go_iconst (pc := 93) (v := 1) (by decide) dX8_laysThrough_93 ?_
          refine go_iload (pc := 94) rfl dX8_laysThrough_94 ?_
          refine gf_iadd (pc := 96) (ti_c (v := 1) (a := 1) (by decide)) (ti_rfl l4) (by omega) (by omega) dX8_laysThrough_96 (fun v55 e56 => ?_)
          refine go_invS (pc := 97) (sl := 0) (s_X8_procedurePlace_x l (d + 3) hvx v53 (by rw [show (v53 : Int32).toInt = (l2.toInt / 6) from e54]; omega) (by rw [show (v53 : Int32).toInt = (l2.toInt / 6) from e54]; omega) v55 (by rw [show (v55 : Int32).toInt = (1 + l4.toInt) from e56]; omega) (by rw [show (v55 : Int32).toInt = (1 + l4.toInt) from e56]; omega)) mL_X8_300 iM_X8_procedurePlace rfl rfl (Nat.le_of_ble_eq_true rfl) (show d + 3 + 1 + 1 ≤ d + 5 by omega) (show 8 + (2 + 11) + 40 * (d + 3 + 1) ≤ 40 * (d + 5) by omega) (g_c0 hvx.ln) (Nat.le_of_ble_eq_true rfl) dX8_laysThrough_97 ?_
          intro r h57 hq _
          obtain ⟨v59, rfl, v59l, v59u, rfl, f58⟩ := hq
          try rw [show (v53 : Int32).toInt = (l2.toInt / 6) from e54] at f58
          try rw [show (v55 : Int32).toInt = (1 + l4.toInt) from e56] at f58
          refine go_invV (pc := 100) (sl := 0) (s_X8_isInSet_x l (d + 3) hvx v59 (by rw [show (v59 : Int32).toInt = v59.toInt from (ti_rfl v59)]; omega) (by rw [show (v59 : Int32).toInt = v59.toInt from (ti_rfl v59)]; omega)) mL_X8_341 iM_X8_isInSet sM_X8_isInSet (hvx.sh rfl) rfl rfl rfl (Nat.le_of_ble_eq_true rfl) (show d + 3 + 1 + 1 ≤ d + 5 by omega) (show 8 + (2 + 11) + 40 * (d + 3 + 1) ≤ 40 * (d + 5) by omega) (g_c0 hvx.ln) (Nat.le_of_ble_eq_true rfl) dX8_laysThrough_100 ?_
          intro r h60 hq _
          obtain ⟨v62, rfl, v62l, v62u, rfl, f61⟩ := hq
          have ei : v59.toInt = INP l2.toInt l4.toInt := by unfold INP; omega
          have isf := f61
          rw [ei] at isf
          refine gf_if_eq (pc := 103) (tgt := 113) (ti_rfl v62) (by decide) dX8_laysThrough_103 (fun q63 => ?_) (fun q63 => ?_)
          ·
            refine go_iconst (pc := 113) (v := 0) (by decide) dX8_laysThrough_113 ?_
            refine gx_ior (pc := 114) dX8_laysThrough_114 (fun v64 v64x => ?_)
            refine go_istore_n (pc := 115) (Nat.le_of_ble_eq_true rfl) dX8_laysThrough_115 (go_lv (lv2 := [(0, .ref 70), (1, .int l1), (2, .int l2), (3, .int v64), (4, .int l4)]) rfl ?_)
            refine gf_iinc (pc := 116) (Nat.le_of_ble_eq_true rfl) rfl (ti_rfl l4) (ti_c (by decide)) (by omega) (by omega) dX8_laysThrough_116 (fun v65 e66 => ?_)
            refine go_lv (lv2 := [(0, .ref 70), (1, .int l1), (2, .int l2), (3, .int v64), (4, .int v65)]) rfl ?_
            refine go_goto (pc := 119) (tgt := 80) (by decide) dX8_laysThrough_119 ?_
            have z67 : (v65 : Int32).toInt = (l4.toInt + 1) := e66
            exact go_lv rfl (ih.2.2.2 l1 l2 v64 v65 hx hvx (by omega) (by omega) (by omega) (by omega) (by omega) (by omega) x0 x1 ⟨tc_lo _, tc_hi _⟩ x3 (by rw [show (v65 : Int32).toInt = l4.toInt + 1 from e66, v64x]; exact BI.skip (by omega) x4 (isf.2 (by omega))) (by omega))
          ·
            refine go_iconst (pc := 106) (v := 1) (by decide) dX8_laysThrough_106 ?_
            refine go_iload (pc := 107) rfl dX8_laysThrough_107 ?_
            refine gx_ishl (pc := 109) dX8_laysThrough_109 (fun v68 v68x => ?_)
            refine go_goto (pc := 110) (tgt := 114) (by decide) dX8_laysThrough_110 ?_
            refine gx_ior (pc := 114) dX8_laysThrough_114 (fun v69 v69x => ?_)
            refine go_istore_n (pc := 115) (Nat.le_of_ble_eq_true rfl) dX8_laysThrough_115 (go_lv (lv2 := [(0, .ref 70), (1, .int l1), (2, .int l2), (3, .int v69), (4, .int l4)]) rfl ?_)
            refine gf_iinc (pc := 116) (Nat.le_of_ble_eq_true rfl) rfl (ti_rfl l4) (ti_c (by decide)) (by omega) (by omega) dX8_laysThrough_116 (fun v70 e71 => ?_)
            refine go_lv (lv2 := [(0, .ref 70), (1, .int l1), (2, .int l2), (3, .int v69), (4, .int v70)]) rfl ?_
            refine go_goto (pc := 119) (tgt := 80) (by decide) dX8_laysThrough_119 ?_
            have z72 : (v70 : Int32).toInt = (l4.toInt + 1) := e71
            exact go_lv rfl (ih.2.2.2 l1 l2 v69 v70 hx hvx (by omega) (by omega) (by omega) (by omega) (by omega) (by omega) x0 x1 ⟨tc_lo _, tc_hi _⟩ x3 (by rw [show (v70 : Int32).toInt = l4.toInt + 1 from e71, v69x, v68x]; exact BI.add (by omega) (by omega) x4 (isf.1 (by omega))) (by omega))
  refine go_iconst (pc := 0) (v := 0) (by decide) dX8_laysThrough_0 ?_
  refine go_istore_n (pc := 1) (Nat.le_of_ble_eq_true rfl) dX8_laysThrough_1 (go_lv (lv2 := [(0, .ref 70), (1, .int 0)]) rfl ?_)
  have z73 : (0 : Int32).toInt = 0 := (ti_c (v := 0) (a := 0) (by decide))
  exact go_lv rfl ((key 2000001).1 0 h hv (by omega) (by omega) (KT.rfl _) (fun j q => absurd q (by omega)) (by omega))
