/-! the class: up, then down -/
/-- all to which a row leads that matches: first up, then down -/
def BKQ (c : Nat) (F : Nat → Nat → Int) (T : Int → Int → Int → Prop) (A : Int → Prop) (x : Int) : Prop := CLO (STP c F T 2) (CLO (STP c F T 1) A) x
/-- the places of a statement -/
def SA (c : Nat) (F : Nat → Nat → Int) (k x : Int) : Prop := ∃ part, 0 ≤ part ∧ part < (if F (c + 2) k.toNat = 1 then 13 else 1) ∧ x = 13 * k + part
/-- statements some place of which is in -/
def STM (Q : Int → Prop) (j : Int) : Prop := j < 40 ∧ ∃ part, 0 ≤ part ∧ part < 13 ∧ Q (13 * j + part)
def BK (c : Nat) (F : Nat → Nat → Int) (k j : Int) : Prop := STM (BKQ c F (TSM c F) (SA c F k)) j
def BO (c : Nat) (F : Nat → Nat → Int) (p k j : Int) : Prop := STM (BKQ c F (TSM c F) (fun x => x = 13 * (40 + p) + 7 + k)) j
section F
variable {c : Nat} {F : Nat → Nat → Int} {T : Int → Int → Int → Prop}
theorem SA.v {k : Int} (k0 : 0 ≤ k) (k1 : k < F c 0) : ∀ x, SA c F k x → VP c F x := fun x ⟨part, p0, p1, e⟩ => ⟨k, part, e, p0, by by_cases z : F (c + 2) k.toNat = 1 <;> (first | rw [if_pos z] at p1 | rw [if_neg z] at p1) <;> omega, Or.inl ⟨k0, k1⟩⟩
theorem BKQ.v (f : CFC c F) {A : Int → Prop} (va : ∀ x, A x → VP c F x) {x : Int} (h : BKQ c F T A x) : VP c F x := CLO.v f (fun _ z => CLO.v f va z) h
theorem STM.n (f : CFC c F) {A : Int → Prop} (va : ∀ x, A x → VP c F x) {j : Int} (h : STM (BKQ c F T A) j) : 0 ≤ j ∧ j < F c 0 := by
  obtain ⟨j1, part, p0, p1, h⟩ := h
  obtain ⟨u, k, e, k0, k1, q⟩ := BKQ.v f va h
  omega
theorem fo_n (hc : c = 2 ∨ c = 18) (f : CFC c F) (nc : NCL c F) {A : Int → Prop} {s0 : ST} (va : ∀ x, A x → VP c F x) : ∀ (n lab : Nat) (l : Int) (s : ST), 0 ≤ l → l ≤ 13 → 20 - l < (n : Int) → EQ2 s0 s → SLC c F T s → (∀ x, 0 ≤ x → x < 585 → (PX s 52 x ↔ CLO (STP c F T 1) A x)) → QP 53 (fun x => CLO (STP c F T 1) A x ∧ x % 13 < l) s → EQ2 s0 (f_X4_findOn2_ n lab l s) ∧ (f_X4_findOn2_ n lab l s).1 49 8 = 0 ∧ ∀ x, 0 ≤ x → x < 585 → (PX (f_X4_findOn2_ n lab l s) 53 x ↔ BKQ c F T A x) := by
  intro n
  induction n with
  | zero => intros; omega
  | succ n ih =>
    intro lab l s l0 l13 hm e sl h52 qp
    rw [f_X4_findOn2_]
    by_cases z : 13 ≤ l
    · rw [if_pos z, bd_r]
      have q2 : QP 53 (CLO (STP c F T 1) A) s := qp.iff (fun x => ⟨fun h => h.1, fun h => ⟨h, by omega⟩⟩)
      have sp := sp_ok (a := 2) f hc nc (Or.inr rfl) (fun x h => CLO.v f va h) q2 sl
      exact ⟨e.tr (sp.1.e2 (Or.inr rfl)), sp.2.1, sp.2.2⟩
    · rw [if_neg z, bd_r, bd_r]
      have bv : ∀ u, 0 ≤ u → u < 45 → (bt (s.2.1 52 l.toNat) u ↔ CLO (STP c F T 1) A (13 * u + l)) := fun u u0 u1 => by
        have q := h52 (13 * u + l) (by omega) (by omega)
        unfold PX at q
        rw [show (13 * u + l) % 13 = l by omega, show (13 * u + l) / 13 = u by omega] at q
        exact q
      have a := addq_ok (m := s.2.1 52 l.toNat) l0 (show l < 13 by omega) qp
      generalize f_X4_add2 s 53 l (s.2.1 52 l.toNat) = t at a ⊢
      have e2 := a.1.e2 (Or.inr rfl)
      refine ih 11 (l + 1) t (by omega) (by omega) (by omega) (e.tr e2) (sl.e2 hc e2) (fun x x0 x1 => ?_) (a.2.2.iff (fun x => ?_))
      · have q := h52 x x0 x1
        unfold PX at q ⊢
        rw [a.1.2.1 52 (by decide)]
        exact q
      · constructor
        · rintro (h | ⟨u, u0, u1, h, e⟩)
          · exact ⟨h.1, by omega⟩
          · rw [e]
            exact ⟨(bv u u0 u1).mp h, by omega⟩
        · intro h
          by_cases k : x % 13 = l
          · have v := (CLO.v f va h.1).r f
            refine Or.inr ⟨x / 13, by omega, by omega, (bv _ (by omega) (by omega)).mpr ?_, by omega⟩
            rw [show 13 * (x / 13) + l = x by omega]
            exact h.1
          · exact Or.inl ⟨h.1, by omega⟩
theorem fo_ok (hc : c = 2 ∨ c = 18) (f : CFC c F) (nc : NCL c F) {A : Int → Prop} {s : ST} (va : ∀ x, A x → VP c F x) (sl : SLC c F T s) (q52 : QP 52 A s) (e53 : ∀ x, 0 ≤ x → x < 585 → ¬ PX s 53 x) : EQ2 s (f_X4_findOn2 s) ∧ (f_X4_findOn2 s).1 49 8 = 0 ∧ ∀ x, 0 ≤ x → x < 585 → (PX (f_X4_findOn2 s) 53 x ↔ BKQ c F T A x) := by
  unfold f_X4_findOn2
  rw [bd_r]
  have sp := sp_ok (a := 1) f hc nc (Or.inl rfl) va q52 sl
  generalize f_X4_spread2 s 52 1 = t at sp ⊢
  have e2 := sp.1.e2 (Or.inl rfl)
  refine fo_n hc f nc va 58 11 0 t (by omega) (by omega) (by omega) e2 (sl.e2 hc e2) sp.2.2 ⟨⟨fun x h => by have := (CLO.v f va h.1).r f; omega, fun j j0 j1 => by have := sp.2.1; omega, fun x h => by have := (CLO.v f va h.1).r f; have := h.2; omega, ?_⟩, fun x x0 x1 => ?_⟩
  · rw [sp.2.1, cc_none (fun k hk h => by have := h.2; omega)]
    rfl
  · have q := e53 x x0 x1
    unfold PX at q ⊢
    rw [sp.1.2.1 53 (by decide)]
    exact ⟨fun h => absurd h q, fun h => by have := h.2; omega⟩
theorem bf_n {k m : Int} (k0 : 0 ≤ k) (k1 : k < 45) (m1 : m ≤ 13) {s0 : ST} : ∀ (n lab : Nat) (l : Int) (s : ST), 0 ≤ l → l ≤ m → 20 - l < (n : Int) → EQP 52 s0 s → QP 52 (fun x => ∃ part, 0 ≤ part ∧ part < l ∧ x = 13 * k + part) s → EQP 52 s0 (f_X4_beginFrom2_ n lab k m l s) ∧ QP 52 (fun x => ∃ part, 0 ≤ part ∧ part < m ∧ x = 13 * k + part) (f_X4_beginFrom2_ n lab k m l s) := by
  intro n
  induction n with
  | zero => intros; omega
  | succ n ih =>
    intro lab l s l0 l1 hm e q
    rw [f_X4_beginFrom2_]
    by_cases z : m ≤ l
    · rw [if_pos z, show m = l by omega]
      exact ⟨e, q⟩
    · rw [if_neg z, bd_r, bd_r]
      have a := addq_ok (m := f_X7_bit s k) l0 (show l < 13 by omega) q
      generalize f_X4_add2 s 52 l (f_X7_bit s k) = t at a ⊢
      refine ih 26 (l + 1) t (by omega) (by omega) (by omega) (e.tr a.1) (a.2.2.iff (fun x => ?_))
      constructor
      · rintro (⟨part, p0, p1, e⟩ | ⟨u, u0, u1, h, e⟩)
        · exact ⟨part, p0, by omega, e⟩
        · have eu := (bit_r (s := s) k0 (show k ≤ 63 by omega) u0).mp h
          rw [eu] at e
          exact ⟨l, l0, by omega, e⟩
      · rintro ⟨part, p0, p1, e⟩
        by_cases w : part = l
        · rw [w] at e
          exact Or.inr ⟨k, k0, k1, (bit_r k0 (by omega) k0).mpr rfl, e⟩
        · exact Or.inl ⟨part, p0, by omega, e⟩
theorem bf_ok (hc : c = 2 ∨ c = 18) (f : CFC c F) {k : Int} (k0 : 0 ≤ k) (k1 : k < F c 0) {s : ST} (sl : SLC c F T s) : EQ2 s (f_X4_beginFrom2 s k) ∧ QP 52 (SA c F k) (f_X4_beginFrom2 s k) ∧ ∀ x, 0 ≤ x → x < 585 → ¬ PX (f_X4_beginFrom2 s k) 53 x := by
  have n40 := f.1
  unfold f_X4_beginFrom2
  rw [bd_r]
  have a := clr_ok s
  generalize f_X4_clearFound2 s = t at a ⊢
  have sl2 := sl.e2 hc a.1
  rw [bd_r, sl2.2.1, bd_r, sl2.1 (c + 2) (by omega) (by omega)]
  have no : QP 52 (fun x => ∃ part, 0 ≤ part ∧ part < (0 : Int) ∧ x = 13 * k + part) t := (a.2 52 (Or.inl rfl)).iff (fun x => ⟨fun h => absurd h id, fun ⟨part, p0, p1, _⟩ => by omega⟩)
  have fin : ∀ w, EQP 52 t w → ∀ x, 0 ≤ x → x < 585 → ¬ PX w 53 x := fun w e x x0 x1 h => by
    have q := ((a.2 53 (Or.inr rfl)).2 x x0 x1).mp
    refine q ?_
    unfold PX at h ⊢
    rw [← e.2.1 53 (by decide)]
    exact h
  by_cases z : F (c + 2) k.toNat = 1
  · rw [if_neg (fun w => w z)]
    have r := bf_n (m := 13) k0 (by omega) (by omega) (s0 := t) 58 26 0 t (by omega) (by omega) (by omega) EQP.rfl no
    refine ⟨a.1.tr (r.1.e2 (Or.inl rfl)), r.2.iff (fun x => ?_), fin _ r.1⟩
    unfold SA
    rw [if_pos z]
  · rw [if_pos z]
    have r := bf_n (m := 1) k0 (by omega) (by omega) (s0 := t) 58 26 0 t (by omega) (by omega) (by omega) EQP.rfl no
    refine ⟨a.1.tr (r.1.e2 (Or.inl rfl)), r.2.iff (fun x => ?_), fin _ r.1⟩
    unfold SA
    rw [if_neg z]
theorem sf_n {s : ST} : ∀ (n lab : Nat) (v : Int64) (l : Int), 0 ≤ l → l ≤ 13 → 20 - l < (n : Int) → (∀ j, 0 ≤ j → (bt v j ↔ ∃ part : Int, 0 ≤ part ∧ part < l ∧ bt (s.2.1 53 part.toNat) j)) → ∀ j, 0 ≤ j → (bt (f_X4_statementsFound2_ n lab v l s) j ↔ j < 40 ∧ ∃ part : Int, 0 ≤ part ∧ part < 13 ∧ bt (s.2.1 53 part.toNat) j) := by
  intro n
  induction n with
  | zero => intros; omega
  | succ n ih =>
    intro lab v l l0 l1 hm hv
    rw [f_X4_statementsFound2_]
    by_cases z : 13 ≤ l
    · rw [if_pos z, bd_r]
      intro j j0
      rw [land_r, low_r j0, hv j j0, show l = 13 by omega]
      exact ⟨fun h => ⟨h.2, h.1⟩, fun h => ⟨h.2, h.1⟩⟩
    · rw [if_neg z, bd_r, bd_r]
      refine ih 4 _ (l + 1) (by omega) (by omega) (by omega) (fun j j0 => ?_)
      rw [lor_r, hv j j0]
      constructor
      · rintro (⟨part, p0, p1, h⟩ | h)
        · exact ⟨part, p0, by omega, h⟩
        · exact ⟨l, l0, by omega, h⟩
      · rintro ⟨part, p0, p1, h⟩
        by_cases w : part = l
        · rw [w] at h; exact Or.inr h
        · exact Or.inl ⟨part, p0, by omega, h⟩
theorem sf_ok {s : ST} {Q : Int → Prop} (h : ∀ x, 0 ≤ x → x < 585 → (PX s 53 x ↔ Q x)) {j : Int} (j0 : 0 ≤ j) : bt (f_X4_statementsFound2 s) j ↔ STM Q j := by
  unfold f_X4_statementsFound2
  rw [sf_n 58 4 0 0 (by omega) (by omega) (by omega) (fun j _ => ⟨fun w => absurd w bt_0, fun ⟨part, p0, p1, _⟩ => by omega⟩) j j0]
  have e : ∀ part : Int, j < 40 → 0 ≤ part → part < 13 → (bt (s.2.1 53 part.toNat) j ↔ Q (13 * j + part)) := fun part j1 p0 p1 => by
    have q := h (13 * j + part) (by omega) (by omega)
    unfold PX at q
    rw [show (13 * j + part) % 13 = part by omega, show (13 * j + part) / 13 = j by omega] at q
    exact q
  constructor
  · rintro ⟨j1, part, p0, p1, w⟩
    exact ⟨j1, part, p0, p1, (e part j1 p0 p1).mp w⟩
  · rintro ⟨j1, part, p0, p1, w⟩
    exact ⟨j1, part, p0, p1, (e part j1 p0 p1).mpr w⟩
/-- what was found already is right -/
def BKS (c : Nat) (F : Nat → Nat → Int) (s : ST) : Prop := ∀ k, 0 ≤ k → k < F c 0 → bt (s.2.1 49 10) k → ∀ j, 0 ≤ j → (bt (s.2.1 55 k.toNat) j ↔ BK c F k j)
/-- what a question for a slice writes -/
def EQB (s s' : ST) : Prop := s'.2.2 = s.2.2 ∧ (∀ p j, p ≠ 52 → p ≠ 53 → p ≠ 55 → ¬ (p = 49 ∧ j = 10) → s'.2.1 p j = s.2.1 p j) ∧ ∀ p j, p ≠ 54 → ¬ (p = 49 ∧ j = 8) → s'.1 p j = s.1 p j
theorem EQB.rfl {s : ST} : EQB s s := ⟨_root_.rfl, fun _ _ _ _ _ _ => _root_.rfl, fun _ _ _ _ => _root_.rfl⟩
theorem EQB.tr {s u w : ST} (a : EQB s u) (b : EQB u w) : EQB s w := ⟨b.1.trans a.1, fun p j h1 h2 h3 h4 => (b.2.1 p j h1 h2 h3 h4).trans (a.2.1 p j h1 h2 h3 h4), fun p j h1 h2 => (b.2.2 p j h1 h2).trans (a.2.2 p j h1 h2)⟩
theorem EQ2.b {s s' : ST} (h : EQ2 s s') : EQB s s' := ⟨h.1, fun p j h1 h2 _ _ => by rw [h.2.1 p h1 h2], h.2.2⟩
theorem SLC.eb {s s' : ST} (hc : c = 2 ∨ c = 18) (h : EQB s s') (a : SLC c F T s) : SLC c F T s' := by
  obtain ⟨a1, a2, a3, a4, a5⟩ := a
  have i : ∀ p, p ≠ 54 → p ≠ 49 → s'.1 p = s.1 p := fun p h1 h2 => funext fun j => h.2.2 p j h1 (fun z => h2 z.1)
  refine ⟨fun p p1 p2 => (i p (by omega) (by omega)).trans (a1 p p1 p2), by rw [h.1]; exact a2, fun y x y0 y1 x0 x1 => ?_, fun p u p0 p1 u0 u1 => ?_, fun q b j r => ?_⟩
  · unfold CH
    rw [h.2.1 58 _ (by decide) (by decide) (by decide) (by omega)]
    exact a3 y x y0 y1 x0 x1
  · rw [h.2.1 50 _ (by decide) (by decide) (by decide) (by omega)]
    exact a4 p u p0 p1 u0 u1
  · rw [i 51 (by decide) (by decide)]
    exact a5 q b j r
def PRE2 (c : Nat) (F : Nat → Nat → Int) (s : ST) : Prop := SLC c F (TSM c F) s ∧ BKS c F s
theorem back_ok (hc : c = 2 ∨ c = 18) (f : CFC c F) (nc : NCL c F) {k : Int} (k0 : 0 ≤ k) (k1 : k < F c 0) {s : ST} (pr : PRE2 c F s) : EQB s (f_X4_backFrom2 s k).1 ∧ PRE2 c F (f_X4_backFrom2 s k).1 ∧ ∀ j, 0 ≤ j → (bt (f_X4_backFrom2 s k).2 j ↔ BK c F k j) := by
  have n40 := f.1
  unfold f_X4_backFrom2
  rw [bd_r, bd_r]
  have hh := has_r (s := s) (x := s.2.1 49 10) k0 (show k ≤ 63 by omega)
  by_cases z : f_X7_has s (s.2.1 49 10) k = 0
  · rw [if_neg (fun w => w z), bd_r]
    have b := bf_ok hc f k0 k1 pr.1
    generalize f_X4_beginFrom2 s k = s1 at b ⊢
    rw [bd_r]
    have sl1 := pr.1.e2 hc b.1
    have fo := fo_ok hc f nc (SA.v k0 k1) sl1 b.2.1 b.2.2
    generalize f_X4_findOn2 s1 = s2 at fo ⊢
    rw [bd_r]
    have sf := fun j (j0 : 0 ≤ j) => sf_ok fo.2.2 (j := j) j0
    generalize f_X4_statementsFound2 s2 = v at sf ⊢
    rw [bd_r, bd_r, bd_r, bd_r, bd_r, bd_r]
    have e12 := (b.1.tr fo.1).b
    obtain ⟨kn, hk⟩ : ∃ w, w = o_lor ((sL s2 55 k.toNat v).2.1 49 10) (f_X7_bit (sL s2 55 k.toNat v) k) := ⟨_, rfl⟩
    rw [← hk]
    have known : ∀ u, 0 ≤ u → (bt kn u ↔ bt (s.2.1 49 10) u ∨ u = k) := fun u u0 => by
      rw [hk, lor_r, bit_r k0 (by omega) u0, sL_nc (show (49 : Nat) ≠ 55 by decide), fo.1.2.1 49 (by decide) (by decide), b.1.2.1 49 (by decide) (by decide)]
    obtain ⟨w, hw⟩ : ∃ w, w = sL (sL s2 55 k.toNat v) 49 10 kn := ⟨_, rfl⟩
    rw [← hw]
    have w10 : w.2.1 49 10 = kn := by rw [hw]; exact sL_eq _ _ _ _
    have w55 : ∀ j : Nat, w.2.1 55 j = if j = k.toNat then v else s.2.1 55 j := fun j => by
      rw [hw, sL_nc (show (55 : Nat) ≠ 49 by decide)]
      by_cases q : j = k.toNat
      · rw [if_pos q, q, sL_eq]
      · rw [if_neg q, sL_ne (fun y => q y.2), fo.1.2.1 55 (by decide) (by decide), b.1.2.1 55 (by decide) (by decide)]
    have ew : EQB s w := e12.tr (by
      rw [hw]
      exact ⟨rfl, fun p j _ _ h3 h4 => by rw [sL_ne h4, sL_nc h3], fun _ _ _ _ => rfl⟩)
    refine ⟨ew, ⟨pr.1.eb hc ew, fun u u0 u1 hb j j0 => ?_⟩, fun j j0 => ?_⟩
    · rw [w10] at hb
      rw [w55]
      by_cases q : u = k
      · rw [q, if_pos rfl]
        exact sf j j0
      · rw [if_neg (by omega)]
        rcases (known u u0).mp hb with y | y
        · exact pr.2 u u0 u1 y j j0
        · exact absurd y q
    · show bt (w.2.1 55 k.toNat) j ↔ _
      rw [w55, if_pos rfl]
      exact sf j j0
  · rw [if_pos z, bd_r]
    have hb : bt (s.2.1 49 10) k := Classical.byContradiction (fun w => z (hh.mpr w))
    exact ⟨EQB.rfl, pr, fun j j0 => pr.2 k k0 k1 hb j j0⟩
theorem fth_n (hc : c = 2 ∨ c = 18) (f : CFC c F) (nc : NCL c F) {x : Int} (x0 : 0 ≤ x) (x1 : x ≤ 63) {s0 : ST} : ∀ (n lab : Nat) (v : Int64) (l : Int) (s : ST), 0 ≤ l → l ≤ F c 0 → 50 - l < (n : Int) → EQB s0 s → PRE2 c F s → (∀ y, 0 ≤ y → (bt v y ↔ y < l ∧ BK c F y x)) → EQB s0 (f_X4_forthFrom2_ n lab x v l s).1 ∧ PRE2 c F (f_X4_forthFrom2_ n lab x v l s).1 ∧ ∀ y, 0 ≤ y → (bt (f_X4_forthFrom2_ n lab x v l s).2 y ↔ y < F c 0 ∧ BK c F y x) := by
  intro n
  have n40 := f.1
  induction n with
  | zero => intros; omega
  | succ n ih =>
    intro lab v l s l0 l1 hm e pr hv
    rw [f_X4_forthFrom2_, bd_r, pr.1.2.1, bd_r, pr.1.1 c (by omega) (by omega)]
    by_cases z : F c 0 ≤ l
    · rw [if_pos z]
      exact ⟨e, pr, fun y y0 => by rw [show F c 0 = l by omega]; exact hv y y0⟩
    · rw [if_neg z, bd2_r]
      have b := back_ok hc f nc l0 (show l < F c 0 by omega) pr
      generalize f_X4_backFrom2 s l = r at b ⊢
      obtain ⟨s1, w⟩ := r
      dsimp only at b ⊢
      rw [bd_r]
      have hh := has_r (s := s1) (x := w) x0 x1
      rw [b.2.2 x x0] at hh
      by_cases y : f_X7_has s1 w x = 0
      · rw [if_pos y]
        have ny := hh.mp y
        refine ih 5 v (l + 1) s1 (by omega) (by omega) (by omega) (e.tr b.1) b.2.1 (fun u u0 => ?_)
        rw [hv u u0]
        constructor
        · intro h; exact ⟨by omega, h.2⟩
        · intro h
          by_cases k : u = l
          · rw [k] at h; exact absurd h.2 ny
          · exact ⟨by omega, h.2⟩
      · rw [if_neg y, bd_r, bd_r]
        have yy := Classical.byContradiction (fun w => y (hh.mpr w))
        refine ih 5 _ (l + 1) s1 (by omega) (by omega) (by omega) (e.tr b.1) b.2.1 (fun u u0 => ?_)
        rw [lor_r, hv u u0, bit_r l0 (by omega) u0]
        constructor
        · rintro (h | h)
          · exact ⟨by omega, h.2⟩
          · rw [h]; exact ⟨by omega, yy⟩
        · intro h
          by_cases k : u = l
          · exact Or.inr k
          · exact Or.inl ⟨by omega, h.2⟩
theorem forth_ok (hc : c = 2 ∨ c = 18) (f : CFC c F) (nc : NCL c F) {x : Int} (x0 : 0 ≤ x) (x1 : x ≤ 63) {s : ST} (pr : PRE2 c F s) : EQB s (f_X4_forthFrom2 s x).1 ∧ PRE2 c F (f_X4_forthFrom2 s x).1 ∧ ∀ y, 0 ≤ y → (bt (f_X4_forthFrom2 s x).2 y ↔ y < F c 0 ∧ BK c F y x) := by
  unfold f_X4_forthFrom2
  exact fth_n hc f nc x0 x1 139 5 0 0 s (by omega) f.1.1 (by omega) EQB.rfl pr (fun y y0 => ⟨fun h => absurd h bt_0, fun h => by omega⟩)
theorem BKS.e2 {s s' : ST} (h : EQ2 s s') (a : BKS c F s) : BKS c F s' := fun k k0 k1 hb j j0 => by
  rw [h.2.1 49 (by decide) (by decide)] at hb
  rw [h.2.1 55 (by decide) (by decide)]
  exact a k k0 k1 hb j j0
theorem bo_ok (hc : c = 2 ∨ c = 18) (f : CFC c F) (nc : NCL c F) {p k : Int} (p0 : 0 ≤ p) (p1 : p < F c 1) (k0 : 0 ≤ k) (k1 : k < 6) {s : ST} (pr : PRE2 c F s) : EQB s (f_X4_backFromOut2 s p k).1 ∧ PRE2 c F (f_X4_backFromOut2 s p k).1 ∧ ∀ j, 0 ≤ j → (bt (f_X4_backFromOut2 s p k).2 j ↔ BO c F p k j) := by
  have p5 := f.2.1
  unfold f_X4_backFromOut2
  rw [bd_r, bd_r]
  have a := clr_ok s
  generalize f_X4_clearFound2 s = t at a ⊢
  rw [bd_r]
  have a2 := addq_ok (m := f_X7_bit t (40 + p)) (show 0 ≤ 7 + k by omega) (show 7 + k < 13 by omega) (a.2 52 (Or.inl rfl))
  generalize f_X4_add2 t 52 (7 + k) (f_X7_bit t (40 + p)) = w at a2 ⊢
  rw [bd_r]
  have q : QP 52 (fun x => x = 13 * (40 + p) + 7 + k) w := a2.2.2.iff (fun x => by
    constructor
    · rintro (h | ⟨u, u0, u1, h, e⟩)
      · exact absurd h id
      · have eu := (bit_r (s := t) (show 0 ≤ 40 + p by omega) (by omega) u0).mp h
        omega
    · intro h
      exact Or.inr ⟨40 + p, by omega, by omega, (bit_r (by omega) (by omega) (by omega)).mpr rfl, by omega⟩)
  have e2 := a.1.tr (a2.1.e2 (Or.inl rfl))
  have e53 : ∀ x, 0 ≤ x → x < 585 → ¬ PX w 53 x := fun x x0 x1 h => by
    refine ((a.2 53 (Or.inr rfl)).2 x x0 x1).mp ?_
    unfold PX at h ⊢
    rw [← a2.1.2.1 53 (by decide)]
    exact h
  have fo := fo_ok hc f nc (fun x h => ⟨40 + p, 7 + k, by omega, by omega, by omega, Or.inr ⟨by omega, by omega⟩⟩) (pr.1.e2 hc e2) q e53
  generalize f_X4_findOn2 w = s2 at fo ⊢
  rw [bd_r]
  have e3 := e2.tr fo.1
  exact ⟨e3.b, ⟨pr.1.e2 hc e3, pr.2.e2 e3⟩, fun j j0 => sf_ok fo.2.2 j0⟩
end F
