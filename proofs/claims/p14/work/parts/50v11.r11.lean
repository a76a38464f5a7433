/-! the reference: up, then down; its row of slices -/
section B
variable {c : Nat} {S : Int} {F : Nat → Nat → Int} {T : Int → Int → Int → Prop}
theorem EQR.rx {s s' : ST} (h : s'.1 109 = s.1 109) (x : Int) : RX s' x ↔ RX s x := by
  unfold RX
  rw [h]
/-- all that is in waits once more -/
theorem gk_n (f : CFC c F) {X1 : Int → Prop} (v1 : ∀ x, X1 x → VP c F x) (b : BRI c S F) (hS : F 70 6 = S) {s0 : ST} : ∀ (n lab : Nat) (l : Int) (s : ST), 0 ≤ l → l ≤ 585 → 600 - l < (n : Int) → EQR s0 s → RLC c F T s → (∀ x, 0 ≤ x → x < 585 → (RX s x ↔ X1 x)) → s.1 70 47 = ((cc (fun k : Nat => X1 (k : Int)) l.toNat : Nat) : Int) → (∀ j, 0 ≤ j → j < s.1 70 47 → X1 (s.1 110 j.toNat)) → (∀ x, X1 x → x < l → PEND s x) → EQR s0 (f_X8_goesBack2_ n lab l s) ∧ (f_X8_goesBack2_ n lab l s).1 70 47 = 0 ∧ ∀ x, 0 ≤ x → x < 585 → (RX (f_X8_goesBack2_ n lab l s) x ↔ CLO (STP c F T 2) X1 x) := by
  intro n
  induction n with
  | zero => intros; omega
  | succ n ih =>
    intro lab l s l0 l1 hm e rl hx hw hq hp
    rw [f_X8_goesBack2_, bd_r]
    by_cases z : 585 ≤ l
    · rw [if_pos z, bd_r]
      have w0 : 0 ≤ s.1 70 47 := by omega
      have cn : CN9 s = cc (fun k : Nat => X1 (k : Int)) 585 := cc_eq (fun k hk => hx (k : Int) (by omega) (by omega))
      have l585 : l.toNat = 585 := by omega
      rw [l585] at hw
      have sr : SR c F T 2 X1 NOx s s 0 := by
        refine ⟨EQR.rfl, rl, ⟨w0, fun y ⟨j, j0, j1, k⟩ => ?_, fun x k => ?_, fun x x0 x1 k => CLO.a ((hx x x0 x1).mp k), fun y y0 y1 k => ?_⟩, ?_⟩
        · have q := hq j j0 j1
          rw [k] at q
          have v := (v1 y q).r f
          exact ⟨v.1, v.2, (hx y v.1 v.2).mpr q⟩
        · have v := (v1 x k).r f
          exact ⟨v.1, v.2, (hx x v.1 v.2).mpr k⟩
        · exact Or.inr (Or.inl (hp y ((hx y y0 y1).mp k) (by omega)))
        · unfold FI9
          rw [cn, hw]
          omega
      have g := goes_ok b hS (a := 2) (l1 := 0) (l2 := 1) ⟨fun _ => by decide, fun _ => rfl⟩ ⟨fun h => absurd h (by decide), fun h => absurd rfl h⟩ sr
      exact ⟨e.tr g.1, g.2.1, g.2.2⟩
    · rw [if_neg z, bd_r]
      have is := isx_r (s := s) l0
      rw [hx l l0 (by omega)] at is
      have cs : cc (fun k : Nat => X1 (k : Int)) (l + 1).toNat = cc (fun k : Nat => X1 (k : Int)) l.toNat + cq (X1 l) := by
        rw [show (l + 1).toNat = l.toNat + 1 by omega]
        show cc (fun k : Nat => X1 (k : Int)) l.toNat + cq (X1 ((l.toNat : Nat) : Int)) = _
        rw [show ((l.toNat : Nat) : Int) = l by omega]
      by_cases y : f_X8_isInSet_x2 s l = 0
      · have nx := is.mp y
        rw [if_neg (fun w => w y)]
        refine ih 8 (l + 1) s (by omega) (by omega) (by omega) e rl hx ?_ hq (fun x k hk => ?_)
        · rw [cs, cq_0 nx]; omega
        · by_cases q : x = l
          · rw [q] at k; exact absurd k nx
          · exact hp x k (by omega)
      · have yx : X1 l := Classical.byContradiction (fun w => y (is.mpr w))
        rw [if_pos y, bd_r, bd_r]
        obtain ⟨t, ht⟩ : ∃ t, t = sI (sI s 110 (s.1 70 47).toNat l) 70 47 (s.1 70 47 + 1) := ⟨_, rfl⟩
        rw [← ht]
        have e47 : t.1 70 47 = s.1 70 47 + 1 := by rw [ht]; exact sI_eq _ _ _ _
        have e110 : ∀ j : Nat, t.1 110 j = if j = (s.1 70 47).toNat then l else s.1 110 j := fun j => by
          rw [ht, sI_nc (show (110 : Nat) ≠ 70 by decide)]
          by_cases q : j = (s.1 70 47).toNat
          · rw [if_pos q, q, sI_eq]
          · rw [if_neg q, sI_ne (fun w => q w.2)]
        have et : EQR s t := by
          rw [ht]
          exact ⟨rfl, fun p j _ h2 h3 => by rw [sI_ne h3, sI_ne (fun w => h2 w.1)]⟩
        have r9 : t.1 109 = s.1 109 := by rw [ht, sI_nc (show (109 : Nat) ≠ 70 by decide), sI_nc (show (109 : Nat) ≠ 110 by decide)]
        refine ih 8 (l + 1) t (by omega) (by omega) (by omega) (e.tr et) (rl.e et) (fun x x0 x1 => by rw [EQR.rx r9]; exact hx x x0 x1) ?_ (fun j j0 j1 => ?_) (fun x k hk => ?_)
        · rw [cs, cq_1 yx, e47]; omega
        · rw [e110]
          by_cases q : j.toNat = (s.1 70 47).toNat
          · rw [if_pos q]; exact yx
          · rw [if_neg q]
            exact hq j j0 (by omega)
        · by_cases q : x = l
          · exact ⟨s.1 70 47, by omega, by omega, by rw [e110, if_pos rfl]; exact q.symm⟩
          · obtain ⟨j, j0, j1, k2⟩ := hp x k (by omega)
            exact ⟨j, j0, by omega, by rw [e110, if_neg (by omega)]; exact k2⟩
/-- from all that waits: up, then down -/
theorem gk_ok (b : BRI c S F) (hS : F 70 6 = S) {X0 : Int → Prop} (v0 : ∀ x, X0 x → VP c F x) {s : ST} (h : SR c F T 1 X0 NOx s s 0) : EQR s (f_X8_goesBack2 s) ∧ (f_X8_goesBack2 s).1 70 47 = 0 ∧ ∀ x, 0 ≤ x → x < 585 → (RX (f_X8_goesBack2 s) x ↔ BKQ c F T X0 x) := by
  have f := b.2.2.2.2.1
  unfold f_X8_goesBack2
  rw [bd_r]
  have g := goes_ok b hS (a := 1) (l1 := 1) (l2 := 0) ⟨fun h => absurd h (by decide), fun h => absurd rfl h⟩ ⟨fun _ => by decide, fun _ => rfl⟩ h
  generalize f_X8_goes2 s 1 0 = t at g ⊢
  exact gk_n f (fun x h => CLO.v f v0 h) b hS 1774 8 0 t (by omega) (by omega) (by omega) g.1 (h.2.1.e g.1) g.2.2 (by rw [g.2.1]; rfl) (fun j j0 j1 => by have := g.2.1; omega) (fun x k hk => by have := (CLO.v f v0 k).r f; omega)
/-- what the reference begins with -/
theorem ra_n (b : BRI c S F) (hS : F 70 6 = S) {k : Int} (k0 : 0 ≤ k) (k1 : k < F c 0) {a : Int} {s0 : ST} : ∀ (n lab : Nat) (l : Int) (s : ST), 0 ≤ l → l ≤ 13 → 20 - l < (n : Int) → (¬ F (c + 2) k.toNat = 1 → l ≤ 1) → SR c F T a (fun x => ∃ part, 0 ≤ part ∧ part < l ∧ x = 13 * k + part) NOx s0 s 0 → SR c F T a (SA c F k) NOx s0 (f_X8_reachAll2_ n lab k l s) 0 := by
  intro n
  have f := b.2.2.2.2.1
  have n40 := f.1
  induction n with
  | zero => intros; omega
  | succ n ih =>
    intro lab l s l0 l1 hm nk h
    rw [f_X8_reachAll2_, bd_r, kind_r8 h.2.1.1 hS b k0 k1]
    have fin : ∀ m, l = m → m = (if F (c + 2) k.toNat = 1 then 13 else 1) → SR c F T a (SA c F k) NOx s0 s 0 := fun m e1 e2 => by
      have X : (fun x => ∃ part, 0 ≤ part ∧ part < l ∧ x = 13 * k + part) = SA c F k := funext fun x => by
        unfold SA
        rw [e1, e2]
      rw [← X]
      exact h
    have next : l < 13 → (¬ F (c + 2) k.toNat = 1 → l + 1 ≤ 1) → SR c F T a (SA c F k) NOx s0 (f_X8_reachAll2_ n 2 k (l + 1) (f_X8_reach2 s (13 * k + l))) 0 := fun hl hk => by
      have ad := RIV.add (fun y z r => (STP.v f r).r f) h.2.2.1 (show 0 ≤ 13 * k + l by omega) (show 13 * k + l < 585 by omega)
      refine ih 2 (l + 1) _ (by omega) (by omega) (by omega) hk ⟨h.1.tr ad.2.1, h.2.1.e ad.2.1, ?_, ad.2.2.2.2.trans h.2.2.2⟩
      have X : (fun z => (∃ part, 0 ≤ part ∧ part < l ∧ z = 13 * k + part) ∨ z = 13 * k + l) = (fun x => ∃ part, 0 ≤ part ∧ part < l + 1 ∧ x = 13 * k + part) := funext fun x => propext ⟨fun w => by
        rcases w with ⟨part, p0, p1, e⟩ | e
        · exact ⟨part, p0, by omega, e⟩
        · exact ⟨l, l0, by omega, e⟩, fun ⟨part, p0, p1, e⟩ => by
        by_cases q : part = l
        · rw [q] at e; exact Or.inr e
        · exact Or.inl ⟨part, p0, by omega, e⟩⟩
      have r1 := ad.1
      rw [X] at r1
      exact r1
    by_cases z : F (c + 2) k.toNat = 1
    · rw [if_neg (fun w => w z)]
      by_cases y : 13 ≤ l
      · rw [if_pos y]
        exact fin 13 (by omega) (by rw [if_pos z])
      · rw [if_neg y, bd_r, bd_r]
        exact next (by omega) (fun w => absurd z w)
    · rw [if_pos z]
      by_cases y : 1 ≤ l
      · rw [if_pos y]
        exact fin 1 (by have := nk z; omega) (by rw [if_neg z])
      · rw [if_neg y, bd_r, bd_r]
        exact next (by omega) (fun _ => by omega)
theorem nil_sr {a : Int} {s : ST} (rl : RLC c F T s) : SR c F T a (fun _ => False) NOx s (f_X8_empties_x2 s) 0 := by
  have em := em_ok s
  have nl := RIV.nil (R := STP c F T a) (ex := NOx) s
  exact ⟨em.1, rl.e em.1, nl.1, nl.2⟩
theorem SR.s0 {a g : Int} {X ex : Int → Prop} {s0 s : ST} (h : SR c F T a X ex s0 s g) : SR c F T a X ex s s g := ⟨EQR.rfl, h.2.1, h.2.2.1, h.2.2.2⟩
theorem in_n (b : BRI c S F) (hS : F 70 6 = S) {s : ST} (rs : RS F s) {Q : Int → Prop} (hq : ∀ x, 0 ≤ x → x < 585 → (RX s x ↔ Q x)) : ∀ n : Nat,
    (∀ (v : Int64) (l x : Int), 0 ≤ l → l ≤ F c 0 → 20 * (41 - l) + 2 < (n : Int) → (∀ j, 0 ≤ j → (bt v j ↔ j < l ∧ ∃ part, 0 ≤ part ∧ part < 13 ∧ Q (13 * j + part))) → ∀ j, 0 ≤ j → (bt (f_X8_inSet2_ n 4 v l x s) j ↔ j < F c 0 ∧ ∃ part, 0 ≤ part ∧ part < 13 ∧ Q (13 * j + part))) ∧
    (∀ (v : Int64) (l p : Int), 0 ≤ l → l < F c 0 → 0 ≤ p → p ≤ 13 → 20 * (41 - l) - p < (n : Int) → (∀ j, 0 ≤ j → (bt v j ↔ (j < l ∧ ∃ part, 0 ≤ part ∧ part < 13 ∧ Q (13 * j + part)) ∨ (j = l ∧ ∃ part, 0 ≤ part ∧ part < p ∧ Q (13 * l + part)))) → ∀ j, 0 ≤ j → (bt (f_X8_inSet2_ n 20 v l p s) j ↔ j < F c 0 ∧ ∃ part, 0 ≤ part ∧ part < 13 ∧ Q (13 * j + part))) := by
  intro n
  have f := b.2.2.2.2.1
  have n40 := f.1
  induction n with
  | zero => exact ⟨by intros; omega, by intros; omega⟩
  | succ n ih =>
    refine ⟨fun v l x l0 l1 hm hv => ?_, fun v l p l0 l1 p0 p1 hm hv => ?_⟩
    · rw [f_X8_inSet2_, if_pos rfl, bd_r, bd_r, rs.g (q := 70) (j := 6) (by omega), hS, rs.g (q := 75) (by omega), b.2.2.1]
      by_cases z : F c 0 ≤ l
      · rw [if_pos z]
        intro j j0
        rw [hv j j0, show l = F c 0 by omega]
      · rw [if_neg z]
        refine ih.2 v l 0 l0 (by omega) (by omega) (by omega) (by omega) (fun j j0 => ?_)
        rw [hv j j0]
        refine ⟨Or.inl, fun h => ?_⟩
        rcases h with h | ⟨_, part, q0, q1, _⟩
        · exact h
        · omega
    · rw [f_X8_inSet2_, if_neg (by decide)]
      by_cases z : 13 ≤ p
      · rw [if_pos z]
        refine ih.1 v (l + 1) 0 (by omega) (by omega) (by omega) (fun j j0 => ?_)
        rw [hv j j0]
        constructor
        · rintro (h | ⟨h, part, q0, q1, q⟩)
          · exact ⟨by omega, h.2⟩
          · rw [h]; exact ⟨by omega, part, q0, by omega, q⟩
        · rintro ⟨h, part, q0, q1, q⟩
          by_cases w : j = l
          · rw [w] at q; exact Or.inr ⟨w, part, q0, by omega, q⟩
          · exact Or.inl ⟨by omega, part, q0, q1, q⟩
      · rw [if_neg z, bd_r, bd_r, show f_X8_statementPlace2 s l p = 13 * l + p from rfl]
        have is := isx_r2 (s := s) (x := 13 * l + p) (by omega)
        rw [hq _ (by omega) (by omega)] at is
        by_cases y : f_X8_isInSet2 s (13 * l + p) = 0
        · rw [if_pos y]
          have nq := is.mp y
          refine ih.2 v l (p + 1) l0 l1 (by omega) (by omega) (by omega) (fun j j0 => ?_)
          rw [hv j j0]
          constructor
          · rintro (h | ⟨h, part, q0, q1, q⟩)
            · exact Or.inl h
            · exact Or.inr ⟨h, part, q0, by omega, q⟩
          · rintro (h | ⟨h, part, q0, q1, q⟩)
            · exact Or.inl h
            · by_cases w : part = p
              · rw [w] at q; exact absurd q nq
              · exact Or.inr ⟨h, part, q0, by omega, q⟩
        · rw [if_neg y, bd_r, bd_r]
          have yq := Classical.byContradiction (fun w => y (is.mpr w))
          refine ih.2 _ l (p + 1) l0 l1 (by omega) (by omega) (by omega) (fun j j0 => ?_)
          rw [lor_r, hv j j0, shl_r l0 (by omega) j0]
          constructor
          · rintro ((h | ⟨h, part, q0, q1, q⟩) | h)
            · exact Or.inl h
            · exact Or.inr ⟨h, part, q0, by omega, q⟩
            · exact Or.inr ⟨h, p, p0, by omega, yq⟩
          · rintro (h | ⟨h, part, q0, q1, q⟩)
            · exact Or.inl (Or.inl h)
            · by_cases w : part = p
              · exact Or.inr h
              · exact Or.inl (Or.inr ⟨h, part, q0, by omega, q⟩)
theorem in_ok (b : BRI c S F) (hS : F 70 6 = S) {s : ST} (rs : RS F s) {A : Int → Prop} (va : ∀ x, A x → VP c F x) (hq : ∀ x, 0 ≤ x → x < 585 → (RX s x ↔ BKQ c F T A x)) {j : Int} (j0 : 0 ≤ j) : bt (f_X8_inSet2 s) j ↔ STM (BKQ c F T A) j := by
  have f := b.2.2.2.2.1
  have n40 := f.1
  unfold f_X8_inSet2
  rw [(in_n b hS rs hq 2029).1 0 0 0 (by omega) f.1.1 (by omega) (fun j j0 => ⟨fun h => absurd h bt_0, fun h => by omega⟩) j j0]
  constructor
  · rintro ⟨j1, h⟩
    exact ⟨by omega, h⟩
  · intro h
    exact ⟨(STM.n f va h).2, h.2⟩
/-- the reference's tables behind those of what hangs -/
def RT2 (c : Nat) (F : Nat → Nat → Int) (s : ST) : Prop := (∀ q p i, RNG c F q p i → (ib (s.1 108 (6 * q + p).toNat) i ↔ TSM c F q p i)) ∧ ∀ k j, 0 ≤ k → k < F c 0 → 0 ≤ j → (bt (s.2.1 111 k.toNat) j ↔ BK c F k j)
theorem lb_n (b : BRI c S F) (hS : F 70 6 = S) {s0 : ST} : ∀ (n : Nat) (l : Int) (s : ST), 0 ≤ l → l ≤ F c 0 → 50 - l < (n : Int) → RLC c F (TSM c F) s → (∀ k j, 0 ≤ k → k < l → 0 ≤ j → (bt (s.2.1 111 k.toNat) j ↔ BK c F k j)) → RT2 c F (f_X8_laysAll2_ n 36 l s) := by
  intro n
  have f := b.2.2.2.2.1
  have n40 := f.1
  induction n with
  | zero => intros; omega
  | succ n ih =>
    intro l s l0 l1 hm rl hl
    rw [f_X8_laysAll2_, if_neg (by decide), bd_r, bd_r, rl.1.g (q := 70) (j := 6) (by omega), hS, rl.1.g (q := 75) (by omega), b.2.2.1]
    by_cases z : F c 0 ≤ l
    · rw [if_pos z]
      exact ⟨rl.2.2, fun k j k0 k1 j0 => hl k j k0 (by omega) j0⟩
    · rw [if_neg z, bd_r, bd_r]
      have nl := nil_sr (a := 1) rl
      have X : (fun _ : Int => False) = (fun x => ∃ part, 0 ≤ part ∧ part < (0 : Int) ∧ x = 13 * l + part) := funext fun x => propext ⟨fun w => absurd w id, fun ⟨part, p0, p1, _⟩ => by omega⟩
      rw [X] at nl
      have ra := ra_n b hS l0 (show l < F c 0 by omega) 58 2 0 _ (by omega) (by omega) (by omega) (fun _ => by omega) nl
      rw [show f_X8_reachAll2 (f_X8_empties_x2 s) l = f_X8_reachAll2_ 58 2 l 0 (f_X8_empties_x2 s) from rfl]
      generalize f_X8_reachAll2_ 58 2 l 0 (f_X8_empties_x2 s) = t at ra ⊢
      rw [bd_r]
      have gk := gk_ok b hS (SA.v l0 (by omega)) ra.s0
      generalize f_X8_goesBack2 t = w at gk ⊢
      rw [bd_r, bd_r]
      have rw1 := ra.2.1.e gk.1
      have io := fun j (j0 : 0 ≤ j) => in_ok b hS rw1.1 (SA.v l0 (show l < F c 0 by omega)) gk.2.2 (j := j) j0
      generalize f_X8_inSet2 w = v at io ⊢
      have e12 : EQR s w := ra.1.tr gk.1
      refine ih (l + 1) _ (by omega) (by omega) (by omega) ⟨fun q j h1 h2 h3 h4 h5 => rw1.1 q j h1 h2 h3 h4 h5, rw1.2.1, rw1.2.2⟩ (fun k j k0 k1 j0 => ?_)
      by_cases q : k = l
      · rw [q, sL_eq]
        exact io j j0
      · rw [sL_ne (by omega), show w.2.1 = s.2.1 from congrArg Prod.fst e12.1]
        exact hl k j k0 (by omega) j0
theorem la2_n {s0 : ST} (hr : RS F s0) (hS : F 70 6 = S) (b : BRI c S F) (h01 : H01 F) : ∀ (n : Nat) (k : Int) (s : ST), 0 ≤ k → k ≤ 11115 → EQI 103 s0 s → (∀ j : Nat, (j : Int) < k → s.1 103 j = 0) → 11300 - k < (n : Int) → RT2 c F (f_X8_laysAll2_ n 2 k s) := by
  intro n
  have f := b.2.2.2.2.1
  induction n with
  | zero => intros; omega
  | succ n ih =>
    intro k s k0 k1 h hk hm
    rw [f_X8_laysAll2_, if_pos rfl]
    by_cases z : 11115 ≤ k
    · rw [if_pos z, bd_r, bd_r, bd_r]
      have r := hr.e h
      have v := values_ok r hS b h01 (fun y x y0 y1 x0 x1 => by
        unfold RH
        rw [hk _ (by omega)]
        exact ib_0)
      have r1 : RS F (f_X8_laysValues2 s) := fun q j d1 d2 d3 d4 d5 => by rw [v.1 q d1]; exact r q j d1 d2 d3 d4 d5
      have w := way_ok r1 hS b h01
      have rl0 : RL0 c F (f_X8_laysWay2 (f_X8_laysValues2 s)) := by
        refine ⟨fun q j d1 d2 d3 d4 d5 => by rw [w.1 q d1]; exact r1 q j d1 d2 d3 d4 d5, fun y x a e d g => ?_⟩
        rw [w.2.2.2.1 y x a d (by omega), v.2.2.2.1 y x a e d (by omega)]
        unfold DHc
        constructor
        · rintro ((q | q) | q | q | q)
          · exact Or.inr (Or.inr (Or.inl q))
          · exact Or.inr (Or.inr (Or.inr (Or.inl q)))
          · exact Or.inl q
          · exact Or.inr (Or.inl q)
          · exact Or.inr (Or.inr (Or.inr (Or.inr q)))
        · rintro (q | q | q | q | q)
          · exact Or.inr (Or.inl q)
          · exact Or.inr (Or.inr (Or.inl q))
          · exact Or.inl (Or.inl q)
          · exact Or.inl (Or.inr q)
          · exact Or.inr (Or.inr (Or.inr q))
      generalize f_X8_laysWay2 (f_X8_laysValues2 s) = t at rl0 ⊢
      have lt := lt_ok b hS rl0
      generalize f_X8_laysThrough2 t = t2 at lt ⊢
      have rl1 := rl0.e lt.1
      exact lb_n b hS (s0 := t2) n 0 t2 (by omega) f.1.1 (by omega) ⟨rl1.1, rl1.2, lt.2⟩ (fun k j k0 k1 => by omega)
    · rw [if_neg z, bd_r]
      refine ih (k + 1) _ (by omega) (by omega) (h.tr EQI.I) (fun j hj => ?_) (by omega)
      by_cases q : j = k.toNat
      · rw [q]; exact sI_eq _ _ _ _
      · rw [sI_ne (by omega)]
        exact hk j (by omega)
theorem laysAll2_ok {s : ST} (hS : s.1 70 6 = S) (b : BRI c S s.1) (h01 : H01 s.1) : RT2 c s.1 (f_X8_laysAll2 s) := by
  have bg := BG_le 33490
  unfold f_X8_laysAll2
  exact la2_n (fun _ _ _ _ _ _ _ => rfl) hS b h01 (BG 33490) 0 s (by decide) (by decide) EQI.rfl (fun j hj => by omega) (by omega)
end B
