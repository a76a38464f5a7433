/-! the ways as a relation, by what may return (R) and throw (T) -/
def TH (t : ST) (FI TB : Int → Int) (i : Int) : Int := if TB (gI t 88 i) = -1 then -1 else FI (gI t 86 (TB (gI t 88 i)))
def OT (t : ST) (FI BH : Int → Int) (i : Int) : Int := if gI t 86 i = -1 then BH i else FI (gI t 86 i)
def ED (t : ST) (FI BH TB : Int → Int) (R T : Int → Prop) (i e v : Int) : Prop := (gI t 77 i = 0 ∧ e = 0 ∧ v = BH i) ∨ (gI t 77 i = 1 ∧ e = 0 ∧ R (gI t 84 i) ∧ v = BH i) ∨ (gI t 77 i = 1 ∧ e = 1 ∧ T (gI t 84 i) ∧ v = TH t FI TB i) ∨ (gI t 77 i = 2 ∧ e = 0 ∧ v = FI (gI t 85 i)) ∨ (gI t 77 i = 2 ∧ e = 1 ∧ v = OT t FI BH i) ∨ (gI t 77 i = 3 ∧ e = 0 ∧ v = FI (gI t 85 i)) ∨ (gI t 77 i = 3 ∧ e = 1 ∧ v = BH i) ∨ (gI t 77 i = 4 ∧ e = 1 ∧ v = TH t FI TB i) ∨ (gI t 77 i = 5 ∧ e = 0 ∧ v = -1)
theorem ED.mono {t : ST} {FI BH TB : Int → Int} {R T R' T' : Int → Prop} {i e v : Int} (h : ED t FI BH TB R T i e v) (hr : gI t 77 i = 1 → R (gI t 84 i) → R' (gI t 84 i)) (ht : gI t 77 i = 1 → T (gI t 84 i) → T' (gI t 84 i)) : ED t FI BH TB R' T' i e v := by
  unfold ED at *
  rcases h with h | h | h | h | h | h | h | h | h
  · exact Or.inl h
  · exact Or.inr (Or.inl ⟨h.1, h.2.1, hr h.1 h.2.2.1, h.2.2.2⟩)
  · exact Or.inr (Or.inr (Or.inl ⟨h.1, h.2.1, ht h.1 h.2.2.1, h.2.2.2⟩))
  · exact Or.inr (Or.inr (Or.inr (Or.inl h)))
  · exact Or.inr (Or.inr (Or.inr (Or.inr (Or.inl h))))
  · exact Or.inr (Or.inr (Or.inr (Or.inr (Or.inr (Or.inl h)))))
  · exact Or.inr (Or.inr (Or.inr (Or.inr (Or.inr (Or.inr (Or.inl h))))))
  · exact Or.inr (Or.inr (Or.inr (Or.inr (Or.inr (Or.inr (Or.inr (Or.inl h)))))))
  · exact Or.inr (Or.inr (Or.inr (Or.inr (Or.inr (Or.inr (Or.inr (Or.inr h)))))))
/-- an end that is a throw -/
def TW (t : ST) (TB : Int → Int) (i e : Int) : Prop := e = 1 ∧ (gI t 77 i = 4 ∨ gI t 77 i = 1) ∧ TB (gI t 88 i) = -1
def TT (c : Nat) (S P : Int) (B : Int → Int) (s t : ST) (EN FI EO BH TB : Int → Int) : Prop := RR c S 0 P B s t ∧ WQ t S EN FI EO BH TB ∧ TXR t S ∧ (∀ i, CJ t S i → ¬ gI t 77 i = 6 → 0 ≤ gI t 77 i ∧ gI t 77 i ≤ 5) ∧ (∀ i, CJ t S i → gI t 77 i = 1 → 0 ≤ gI t 84 i ∧ gI t 84 i < P) ∧ (∀ i, CJ t S i → gI t 77 i = 6 → 0 ≤ gI t 82 i) ∧ 0 ≤ S ∧ P ≤ 5 ∧ (c = 2 ∨ c = 18)
theorem TT.it {c : Nat} {S P : Int} {B : Int → Int} {s t : ST} {EN FI EO BH TB : Int → Int} (h : TT c S P B s t EN FI EO BH TB) {k : Int} (k0 : 0 ≤ k) (k1 : k < gI t 75 S) : CJ t S (gI t 93 (40 * S + k)) ∧ gI t 78 (gI t 93 (40 * S + k)) = k ∧ ¬ gI t 77 (gI t 93 (40 * S + k)) = 6 := by
  have k2 := h.1.2.1 k k0 k1
  have ci := k2.1
  refine ⟨ci, k2.2.1, fun y => ?_⟩
  have ka := (h.1.2.2.1 (gI t 93 (40 * S + k) - 130 * S) (by have := ci.1; omega) (by have := ci.2; omega)).2.1
  unfold K3a at ka
  rw [show 130 * S + (gI t 93 (40 * S + k) - 130 * S) = gI t 93 (40 * S + k) by omega, k2.2.1] at ka
  rcases ka with v | v
  · omega
  · exact v.2.2.1 y
theorem HA.tt (t : ST) : ∀ i, HA t (fun _ => True) i := by
  intro i n
  revert i
  induction n with
  | zero => intro i; exact True.intro
  | succ n ih => intro i; exact Or.inr ⟨fun _ => True.intro, ih _⟩
theorem TT.tb {c : Nat} {S P : Int} {B : Int → Int} {s t : ST} {EN FI EO BH TB : Int → Int} (h : TT c S P B s t EN FI EO BH TB) {i : Int} (hi : CJ t S i) (tn : ¬ TB (gI t 88 i) = -1) : CJ t S (TB (gI t 88 i)) ∧ gI t 77 (TB (gI t 88 i)) = 6 ∧ gI t 79 (TB (gI t 88 i)) = gI t 79 i := by
  have q := tb_up h.2.2.2.2.2.2.1 h.1 h.2.1 h.2.2.1 (fun _ => True) (i := i) (i - 130 * S + 1).toNat i hi (by have := hi.1; omega) (XG.self hi) (HA.tt t i) tn
  exact ⟨q.1, q.2.1, q.2.2.2.2.1⟩
theorem TT.vv {c : Nat} {S P : Int} {B : Int → Int} {s t : ST} {EN FI EO BH TB : Int → Int} (h : TT c S P B s t EN FI EO BH TB) {i : Int} (hi : CJ t S i) : vV t TB i < 0 ↔ TB (gI t 88 i) = -1 := by
  unfold vV
  by_cases z : TB (gI t 88 i) = -1
  · rw [if_pos z]
    exact ⟨fun _ => z, fun _ => by omega⟩
  · rw [if_neg z]
    have q := h.tb hi z
    have := h.2.2.2.2.2.1 _ q.1 q.2.1
    exact ⟨fun y => by omega, fun y => absurd y z⟩
/-- items of one block are of one procedure -/
theorem TT.same {c : Nat} {S P : Int} {B : Int → Int} {s t : ST} {EN FI EO BH TB : Int → Int} (h : TT c S P B s t EN FI EO BH TB) {x y : Int} (hx : CJ t S x) (hy : CJ t S y) (e : gI t 88 x = gI t 88 y) : gI t 79 x = gI t 79 y := by
  have K : ∀ i, CJ t S i → (gI t 92 (gI t 88 i) = -1 ∧ 0 ≤ gI t 79 i ∧ gI t 79 i < P ∧ gI t 94 (5 * S + gI t 79 i) = gI t 88 i) ∨ (CJ t S (gI t 92 (gI t 88 i)) ∧ gI t 79 (gI t 92 (gI t 88 i)) = gI t 79 i) := fun i hi => by
    have k := h.1.2.2.2.2.2.2.1.2.1 (i - 130 * S) (by have := hi.1; omega) (by have := hi.2; omega)
    rw [show 130 * S + (i - 130 * S) = i by omega] at k
    rcases k with k | k
    · rcases k.2.2 with z | z
      · exact Or.inl ⟨k.1, k.2.1, z.1, z.2⟩
      · have := z.2.1; omega
    · exact Or.inr ⟨k.1, k.2.1⟩
  have S0 := h.2.2.2.2.2.2.1
  have c7 := h.1.2.2.2.2.2.2.1.2.2.2.2.2.2.2.1
  have a := K x hx
  have b := K y hy
  rw [e] at a
  rcases a with a | a <;> rcases b with b | b
  · rcases Int.lt_trichotomy (gI t 79 x) (gI t 79 y) with v | v | v
    · exact absurd (a.2.2.2.trans b.2.2.2.symm) (c7 _ _ a.2.1 v b.2.2.1)
    · exact v
    · exact absurd (b.2.2.2.trans a.2.2.2.symm) (c7 _ _ b.2.1 v a.2.2.1)
  · have := b.1.1; omega
  · have := a.1.1; omega
  · omega
def BP (t : ST) (S b q : Int) : Prop := (∀ y, CJ t S y → gI t 88 y = b → gI t 79 y = q) ∧ (CJ t S (gI t 92 b) → gI t 79 (gI t 92 b) = q)
def PV (t : ST) (S q v : Int) : Prop := v = -1 ∨ gI t 79 (gI t 93 (40 * S + v)) = q
theorem PV.all {c : Nat} {S P : Int} {B : Int → Int} {s t : ST} {EN FI EO BH TB : Int → Int} (h : TT c S P B s t EN FI EO BH TB) : (∀ i, CJ t S i → PV t S (gI t 79 i) (EN i)) ∧ (∀ b, CB t S b → ∀ q, BP t S b q → PV t S q (FI b)) ∧ (∀ b x, CB t S b → (gI t 92 b = -1 ∨ XG t S (gI t 92 b) x) → ∀ q, BP t S b q → PV t S q (EO b)) ∧ (∀ i x, CJ t S i → XG t S i x → PV t S (gI t 79 i) (BH i)) := by
  have S0 := h.2.2.2.2.2.2.1
  have w := h.2.1
  have T := h.2.2.1
  refine mw_ind (PE := fun i => PV t S (gI t 79 i) (EN i)) (PF := fun b => ∀ q, BP t S b q → PV t S q (FI b)) (PO := fun b x => ∀ q, BP t S b q → PV t S q (EO b)) (PB := fun i x => PV t S (gI t 79 i) (BH i)) S0 T h.1.1.2.2.2.2.2.1 ?_ ?_ ?_ ?_
  · intro i hi k
    rw [w.1 i hi]
    by_cases z : gI t 77 i = 6
    · rw [if_pos z]
      rcases (T.2.2.2.1 i hi).1 with y | y
      · exact absurd y ((T.2.2.2.2.1 i hi).1 z).1
      · exact k z _ ⟨fun x hx e => (sub_it S0 h.1 w hi y.2 x hx e).1, fun _ => by rw [y.2]⟩
    · rw [if_neg z]
      right
      rw [(h.1.n78 i hi z).2.2]
  · intro b hb k1 k2 q hq
    rw [w.2.1 b hb]
    by_cases z : gI t 90 b = -1
    · rw [if_pos z]
      rcases (T.2.2.1 b hb).2 with y | y
      · exact k1 z 0 (Or.inl y) q hq
      · exact k1 z _ (Or.inr (XG.self y)) q hq
    · rw [if_neg z]
      rcases (T.2.2.1 b hb).1 with y | y
      · exact absurd y z
      · have r := k2 z
        rw [hq.1 _ y.1 y.2] at r
        exact r
  · intro b x hb hx k q hq
    rw [w.2.2.1 b hb]
    by_cases z : gI t 92 b = -1
    · rw [if_pos z]; exact Or.inl rfl
    · rw [if_neg z]
      rcases (T.2.2.1 b hb).2 with v | v
      · exact absurd v z
      · by_cases z3 : gI t 77 (gI t 92 b) = 3
        · rw [if_pos z3]
          right
          rw [(h.1.n78 _ v (by omega)).2.2]
          exact hq.2 v
        · rw [if_neg z3]
          have r := k z z3
          rw [hq.2 v] at r
          exact r
  · intro i x hi hx k1 k2
    rw [w.2.2.2.1 i hi]
    by_cases z : gI t 87 i = -1
    · rw [if_pos z]
      refine k1 z _ ⟨fun y hy e => h.same hy hi e, fun ho => ?_⟩
      have kk := h.1.2.2.2.2.2.2.1.2.1 (i - 130 * S) (by have := hi.1; omega) (by have := hi.2; omega)
      rw [show 130 * S + (i - 130 * S) = i by omega] at kk
      rcases kk with kk | kk
      · have := ho.1
        omega
      · exact kk.2.1
    · rw [if_neg z]
      rcases T.1 i hi with y | y
      · exact absurd y z
      · have r := k2 z
        rw [h.same y.2.1 hi y.2.2] at r
        exact r
/-- a way from a statement: where it leads -/
theorem ED.tg {c : Nat} {S P : Int} {B : Int → Int} {s t : ST} {EN FI EO BH TB : Int → Int} (h : TT c S P B s t EN FI EO BH TB) {R T Q : Int → Prop} {i e v : Int} (hi : CJ t S i) (ha : HA t Q i) (hq : Q (gI t 78 i)) (d : ED t FI BH TB R T i e v) : TG t S Q i v ∧ PV t S (gI t 79 i) v := by
  have S0 := h.2.2.2.2.2.2.1
  have w := h.2.1
  have X := h.2.2.1
  obtain ⟨g1, g2, g3, g4⟩ := TG.all S0 h.1 w X Q
  obtain ⟨v1, v2, v3, v4⟩ := PV.all h
  have bh : TG t S Q i (BH i) ∧ PV t S (gI t 79 i) (BH i) := ⟨g4 i i hi (XG.self hi) ha, v4 i i hi (XG.self hi)⟩
  have blk : ∀ b o, CB t S b → gI t 92 b = o → CJ t S o → HA t Q o → (gI t 77 o = 3 → Q (gI t 78 o)) → XG t S o i → (∀ y, CJ t S y → gI t 88 y = b → i < y) → gI t 79 o = gI t 79 i → TG t S Q i (FI b) ∧ PV t S (gI t 79 i) (FI b) := fun b o hb e ho a3 a4 a5 a6 a7 => by
    refine ⟨g2 b hb (Or.inr ⟨by rw [e]; exact a4, by rw [e]; exact a3⟩) i (Or.inr (by rw [e]; exact a5)) a6, v2 b hb _ ⟨fun y hy e' => ((sub_it S0 h.1 w ho e y hy e').1).trans a7, fun _ => by rw [e]; exact a7⟩⟩
  have own : ∀ b, gI t 92 b = i → ∀ y, CJ t S y → gI t 88 y = b → i < y := fun b e y hy e' => by
    rcases (X.2.1 y hy).2 with z | z
    · rw [e', e] at z; have := hi.1; omega
    · rw [e', e] at z; exact z.2.1
  have in5 : gI t 77 i = 2 ∨ gI t 77 i = 3 → TG t S Q i (FI (gI t 85 i)) ∧ PV t S (gI t 79 i) (FI (gI t 85 i)) := fun z => by
    rcases (X.2.2.2.1 i hi).1 with y | y
    · exact absurd y ((X.2.2.2.2.1 i hi).2 z)
    · exact blk _ i y.1 y.2 hi ha (fun _ => hq) (XG.self hi) (own _ y.2) rfl
  have th : TG t S Q i (TH t FI TB i) ∧ PV t S (gI t 79 i) (TH t FI TB i) := by
    unfold TH
    by_cases z : TB (gI t 88 i) = -1
    · rw [if_pos z]; exact ⟨Or.inl rfl, Or.inl rfl⟩
    · rw [if_neg z]
      have u := tb_up S0 h.1 w X Q (i := i) (i - 130 * S + 1).toNat i hi (by have := hi.1; omega) (XG.self hi) ha z
      rcases (X.2.2.2.1 _ u.1).2 with y | y
      · exact absurd y ((X.2.2.2.2.1 _ u.1).1 u.2.1).2
      · exact blk _ _ y.1 y.2 u.1 u.2.2.1 (fun q => by rw [u.2.1] at q; omega) u.2.2.2.1 u.2.2.2.2.2 u.2.2.2.2.1
  unfold ED at d
  rcases d with d | d | d | d | d | d | d | d | d
  · rw [d.2.2]; exact bh
  · rw [d.2.2.2]; exact bh
  · rw [d.2.2.2]; exact th
  · rw [d.2.2]; exact in5 (Or.inl d.1)
  · rw [d.2.2]
    unfold OT
    by_cases z : gI t 86 i = -1
    · rw [if_pos z]; exact bh
    · rw [if_neg z]
      rcases (X.2.2.2.1 i hi).2 with y | y
      · exact absurd y z
      · exact blk _ i y.1 y.2 hi ha (fun _ => hq) (XG.self hi) (own _ y.2) rfl
  · rw [d.2.2]; exact in5 (Or.inr d.1)
  · rw [d.2.2]; exact bh
  · rw [d.2.2]; exact th
  · rw [d.2.2]; exact ⟨Or.inl rfl, Or.inl rfl⟩
/-! the class's own questions -/
def CS (c : Nat) (S P : Int) (t : ST) (FI BH TB : Int → Int) (X : ST) : Prop := X.1 c 0 = gI t 75 S ∧ X.1 c 1 = P ∧ (∀ k, 0 ≤ k → k < gI t 75 S → X.1 (c + 2) k.toNat = gI t 77 (gI t 93 (40 * S + k)) ∧ X.1 (c + 7) k.toNat = gI t 84 (gI t 93 (40 * S + k)) ∧ X.1 (c + 12) k.toNat = vS t FI BH (gI t 93 (40 * S + k)) ∧ X.1 (c + 13) k.toNat = vA t FI TB (gI t 93 (40 * S + k)) ∧ X.1 (c + 14) k.toNat = vV t TB (gI t 93 (40 * S + k))) ∧ (∀ p, 0 ≤ p → p < P → X.1 (c + 1) p.toNat = en p (FI (gI t 94 (5 * S + p)))) ∧ (0 ≤ X.1 c 3 ∧ X.1 c 3 < 32) ∧ (0 ≤ X.1 c 4 ∧ X.1 c 4 < 32)
def GSp (t : ST) (mr i : Int) : Prop := (gI t 77 i = 1 ∧ FB mr (gI t 84 i)) ∨ (¬ gI t 77 i = 1 ∧ ¬ gI t 77 i = 4 ∧ ¬ gI t 77 i = 5)
def ESp (t : ST) (TB : Int → Int) (mt i : Int) : Prop := TB (gI t 88 i) = -1 ∧ (gI t 77 i = 4 ∨ (gI t 77 i = 1 ∧ FB mt (gI t 84 i)))
def DEp (t : ST) (mt i : Int) : Prop := (gI t 77 i = 1 ∧ FB mt (gI t 84 i)) ∨ (¬ gI t 77 i = 1 ∧ ¬ gI t 77 i = 0)
theorem CS.q {c : Nat} {S P : Int} {B : Int → Int} {s t X : ST} {EN FI EO BH TB : Int → Int} (h : TT c S P B s t EN FI EO BH TB) (x : CS c S P t FI BH TB X) {k : Int} (k0 : 0 ≤ k) (k1 : k < gI t 75 S) : (f_X0_goesStraight X c k = 0 ↔ ¬ GSp t (X.1 c 3) (gI t 93 (40 * S + k))) ∧ (f_X0_escapes X c k = 0 ↔ ¬ ESp t TB (X.1 c 4) (gI t 93 (40 * S + k))) ∧ (f_X0_decides X c k = 0 ↔ ¬ DEp t (X.1 c 4) (gI t 93 (40 * S + k))) := by
  have it := h.it k0 k1
  have e := x.2.2.1 k k0 k1
  have vv := h.vv it.1
  have kd := h.2.2.2.1 _ it.1 it.2.2
  have ce := h.2.2.2.2.1 _ it.1
  have P5 := h.2.2.2.2.2.2.2.1
  unfold f_X0_goesStraight f_X0_escapes f_X0_decides GSp ESp DEp
  repeat rewrite [bd_r]
  rw [e.1, e.2.1, e.2.2.2.2]
  generalize gI t 93 (40 * S + k) = i at *
  by_cases z1 : gI t 77 i = 1
  · have c1 := ce z1
    have f3 := flag_r (s := X) x.2.2.2.2.1.1 x.2.2.2.2.1.2 c1.1 (by omega)
    have f4 := flag_r (s := X) x.2.2.2.2.2.1 x.2.2.2.2.2.2 c1.1 (by omega)
    have n1 : ¬ ¬ gI t 77 i = 1 := fun q => q z1
    rw [if_neg n1, if_neg n1, if_neg n1, if_neg (show ¬ gI t 77 i = 4 by omega)]
    refine ⟨?_, ?_, ?_⟩
    · rw [f3]
      exact ⟨fun q y => by rcases y with y | y; (exact q y.2); (exact y.1 z1), fun q y => q (Or.inl ⟨z1, y⟩)⟩
    · by_cases v : vV t TB i < 0
      · rw [if_pos v]
        by_cases f : f_X7_has X (o_i2l (X.1 c 4)) (gI t 84 i) = 0
        · rw [if_pos f]
          exact ⟨fun _ y => by rcases y.2 with y | y; (omega); (exact (f4.mp f) y.2), fun _ => rfl⟩
        · rw [if_neg f]
          refine ⟨fun q => absurd q (by decide), fun q => absurd (f4.mpr (fun y => q ⟨vv.mp v, Or.inr ⟨z1, y⟩⟩)) f⟩
      · rw [if_neg v]
        exact ⟨fun _ y => v (vv.mpr y.1), fun _ => rfl⟩
    · rw [f4]
      exact ⟨fun q y => by rcases y with y | y; (exact q y.2); (exact y.1 z1), fun q y => q (Or.inl ⟨z1, y⟩)⟩
  · rw [if_pos z1, if_pos z1, if_pos z1]
    refine ⟨?_, ?_, ?_⟩
    · by_cases z4 : gI t 77 i = 4
      · rw [if_pos z4]
        exact ⟨fun _ y => by rcases y with y | y; (exact z1 y.1); (exact y.2.1 z4), fun _ => rfl⟩
      · rw [if_neg z4]
        by_cases z5 : gI t 77 i = 5
        · rw [if_pos z5]
          exact ⟨fun _ y => by rcases y with y | y; (exact z1 y.1); (exact y.2.2 z5), fun _ => rfl⟩
        · rw [if_neg z5]
          exact ⟨fun q => absurd q (by decide), fun q => absurd (Or.inr ⟨z1, z4, z5⟩) q⟩
    · by_cases v : vV t TB i < 0
      · rw [if_pos v]
        by_cases z4 : gI t 77 i = 4
        · rw [if_pos z4]
          exact ⟨fun q => absurd q (by decide), fun q => absurd ⟨vv.mp v, Or.inl z4⟩ q⟩
        · rw [if_neg z4]
          exact ⟨fun _ y => by rcases y.2 with y | y; (exact z4 y); (exact z1 y.1), fun _ => rfl⟩
      · rw [if_neg v]
        exact ⟨fun _ y => v (vv.mpr y.1), fun _ => rfl⟩
    · by_cases z0 : gI t 77 i = 0
      · rw [if_pos z0]
        exact ⟨fun _ y => by rcases y with y | y; (exact z1 y.1); (exact y.2 z0), fun _ => rfl⟩
      · rw [if_neg z0]
        exact ⟨fun q => absurd q (by decide), fun q => absurd (Or.inr ⟨z1, z0⟩) q⟩
/-- each way of the class is one of the relation's, and the other way round -/
theorem CS.e1 {t : ST} {FI BH TB : Int → Int} {mr mt i : Int} (k5 : 0 ≤ gI t 77 i ∧ gI t 77 i ≤ 5) (g : GSp t mr i) : ∃ e v, ED t FI BH TB (FB mr) (FB mt) i e v ∧ vS t FI BH i = en (gI t 79 i) v ∧ ¬ TW t TB i e := by
  unfold GSp at g
  unfold vS TW ED
  by_cases z2 : gI t 77 i = 2
  · refine ⟨1, _, Or.inr (Or.inr (Or.inr (Or.inr (Or.inl ⟨z2, rfl, rfl⟩)))), ?_, fun y => by omega⟩
    unfold OT
    by_cases z : gI t 86 i = -1
    · rw [if_pos z, if_neg (fun y => y.2 z)]
    · rw [if_neg z, if_pos ⟨z2, z⟩]
  · rw [if_neg (fun y => z2 y.1)]
    rcases g with g | g
    · exact ⟨0, BH i, Or.inr (Or.inl ⟨g.1, rfl, g.2, rfl⟩), rfl, fun y => by omega⟩
    · by_cases z0 : gI t 77 i = 0
      · exact ⟨0, BH i, Or.inl ⟨z0, rfl, rfl⟩, rfl, fun y => by omega⟩
      · exact ⟨1, BH i, Or.inr (Or.inr (Or.inr (Or.inr (Or.inr (Or.inr (Or.inl ⟨by omega, rfl, rfl⟩)))))), rfl, fun y => by omega⟩
theorem CS.e2 {t : ST} {FI BH TB : Int → Int} {mr mt i : Int} (k5 : 0 ≤ gI t 77 i ∧ gI t 77 i ≤ 5) (n : ¬ ESp t TB mt i) (g : DEp t mt i) : ∃ e v, ED t FI BH TB (FB mr) (FB mt) i e v ∧ vA t FI TB i = en (gI t 79 i) v ∧ ¬ TW t TB i e := by
  unfold DEp at g
  unfold ESp at n
  unfold vA cA TW ED TH
  by_cases z5 : gI t 77 i = 5
  · rw [if_pos z5]
    exact ⟨0, -1, Or.inr (Or.inr (Or.inr (Or.inr (Or.inr (Or.inr (Or.inr (Or.inr ⟨z5, rfl, rfl⟩))))))), en_1.symm, fun y => by omega⟩
  · rw [if_neg z5]
    by_cases z23 : gI t 77 i = 2 ∨ gI t 77 i = 3
    · rw [if_pos z23]
      rcases z23 with z | z
      · exact ⟨0, _, Or.inr (Or.inr (Or.inr (Or.inl ⟨z, rfl, rfl⟩))), rfl, fun y => by omega⟩
      · exact ⟨0, _, Or.inr (Or.inr (Or.inr (Or.inr (Or.inr (Or.inl ⟨z, rfl, rfl⟩))))), rfl, fun y => by omega⟩
    · rw [if_neg z23]
      have tn : ¬ TB (gI t 88 i) = -1 := fun y => n ⟨y, by
        rcases g with g | g
        · exact Or.inr g
        · exact Or.inl (by omega)⟩
      rw [if_neg tn, if_neg tn]
      refine ⟨1, _, ?_, rfl, fun y => tn y.2.2⟩
      rcases g with g | g
      · exact Or.inr (Or.inr (Or.inl ⟨g.1, rfl, g.2, rfl⟩))
      · exact Or.inr (Or.inr (Or.inr (Or.inr (Or.inr (Or.inr (Or.inr (Or.inl ⟨by omega, rfl, rfl⟩)))))))
theorem CS.e3 {t : ST} {FI BH TB : Int → Int} {mr mt i : Int} (g : ESp t TB mt i) : ED t FI BH TB (FB mr) (FB mt) i 1 (-1) ∧ TW t TB i 1 := by
  unfold ESp at g
  unfold ED TW TH
  rw [if_pos g.1]
  refine ⟨?_, rfl, by omega, g.1⟩
  rcases g.2 with z | z
  · exact Or.inr (Or.inr (Or.inr (Or.inr (Or.inr (Or.inr (Or.inr (Or.inl ⟨z, rfl, rfl⟩)))))))
  · exact Or.inr (Or.inr (Or.inl ⟨z.1, rfl, z.2, rfl⟩))
theorem CS.e4 {t : ST} {FI BH TB : Int → Int} {mr mt i e v : Int} (d : ED t FI BH TB (FB mr) (FB mt) i e v) : (TW t TB i e ∧ ESp t TB mt i ∧ v = -1) ∨ (¬ TW t TB i e ∧ ((GSp t mr i ∧ vS t FI BH i = en (gI t 79 i) v) ∨ (¬ ESp t TB mt i ∧ DEp t mt i ∧ vA t FI TB i = en (gI t 79 i) v))) := by
  have nes : ¬ gI t 77 i = 4 → ¬ gI t 77 i = 1 → ¬ ESp t TB mt i := fun a b y => by
    rcases y.2 with y | y
    · exact a y
    · exact b y.1
  unfold ED at d
  unfold vS vA cA
  rcases d with d | d | d | d | d | d | d | d | d
  · rw [if_neg (by omega), d.2.2]
    exact Or.inr ⟨fun y => by have := y.1; omega, Or.inl ⟨Or.inr (by omega), rfl⟩⟩
  · rw [if_neg (by omega), d.2.2.2]
    exact Or.inr ⟨fun y => by have := y.1; omega, Or.inl ⟨Or.inl ⟨d.1, d.2.2.1⟩, rfl⟩⟩
  · rw [d.2.2.2]
    unfold TH
    by_cases z : TB (gI t 88 i) = -1
    · rw [if_pos z]
      exact Or.inl ⟨⟨d.2.1, Or.inr d.1, z⟩, ⟨z, Or.inr ⟨d.1, d.2.2.1⟩⟩, rfl⟩
    · rw [if_neg z, if_neg (show ¬ gI t 77 i = 5 by omega), if_neg (show ¬ (gI t 77 i = 2 ∨ gI t 77 i = 3) by omega), if_neg z]
      exact Or.inr ⟨fun y => z y.2.2, Or.inr ⟨fun y => z y.1, Or.inl ⟨d.1, d.2.2.1⟩, rfl⟩⟩
  · rw [d.2.2, if_neg (show ¬ gI t 77 i = 5 by omega), if_pos (show gI t 77 i = 2 ∨ gI t 77 i = 3 by omega)]
    exact Or.inr ⟨fun y => by have := y.1; omega, Or.inr ⟨nes (by omega) (by omega), Or.inr (by omega), rfl⟩⟩
  · rw [d.2.2]
    refine Or.inr ⟨fun y => by have := y.2.1; omega, Or.inl ⟨Or.inr (by omega), ?_⟩⟩
    unfold OT
    by_cases z : gI t 86 i = -1
    · rw [if_pos z, if_neg (fun y => y.2 z)]
    · rw [if_neg z, if_pos ⟨d.1, z⟩]
  · rw [d.2.2, if_neg (show ¬ gI t 77 i = 5 by omega), if_pos (show gI t 77 i = 2 ∨ gI t 77 i = 3 by omega)]
    exact Or.inr ⟨fun y => by have := y.1; omega, Or.inr ⟨nes (by omega) (by omega), Or.inr (by omega), rfl⟩⟩
  · rw [if_neg (by omega), d.2.2]
    exact Or.inr ⟨fun y => by have := y.2.1; omega, Or.inl ⟨Or.inr (by omega), rfl⟩⟩
  · rw [d.2.2]
    unfold TH
    by_cases z : TB (gI t 88 i) = -1
    · rw [if_pos z]
      exact Or.inl ⟨⟨d.2.1, Or.inl d.1, z⟩, ⟨z, Or.inl d.1⟩, rfl⟩
    · rw [if_neg z, if_neg (show ¬ gI t 77 i = 5 by omega), if_neg (show ¬ (gI t 77 i = 2 ∨ gI t 77 i = 3) by omega), if_neg z]
      exact Or.inr ⟨fun y => z y.2.2, Or.inr ⟨fun y => z y.1, Or.inr (by omega), rfl⟩⟩
  · rw [d.2.2, if_pos d.1]
    exact Or.inr ⟨fun y => by have := y.1; omega, Or.inr ⟨nes (by omega) (by omega), Or.inr (by omega), en_1.symm⟩⟩

