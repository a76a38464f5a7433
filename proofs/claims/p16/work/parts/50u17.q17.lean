/-! on what a place hangs in the reference: all rounds of one use -/
section V
variable {c : Nat} {S p to y nm : Int} {F : Nat → Nat → Int}
def uA (c : Nat) (F : Nat → Nat → Int) (p to y nm : Int) (y' x : Int) : Prop := y' = y ∧ ∃ t, 0 ≤ t ∧ LT c F nm t (en p to) ∧ x = pT c F nm t
theorem uses_begin {s0 s : ST} {seen left : Int64} (h : uJ c S F p to y nm s0 s seen left 1) : uI c S F p to y nm s0 s seen left (-1) := by
  obtain ⟨h1, h2, h3, h4, h5⟩ := h
  have t1 : to = -1 := by
    rcases h4 with w | w
    · exact w.2
    · exact absurd w.1 (by decide)
  exact ⟨h1, h2, fun t _ z => by rw [t1]; exact z, fun u u0 us _ => h3 u u0 us, fun _ w => absurd rfl w, h5, Or.inl ⟨rfl, t1⟩⟩
theorem uses_take {s0 s : ST} {seen left : Int64} (b : BRI c S F) (y0 : 0 ≤ y) (n0 : 0 ≤ nm) (n1 : nm ≤ 9) (p0 : 0 ≤ p) (p1 : p < F c 1) (hto : uT c F p to) (h : uJ c S F p to y nm s0 s seen left 0) (z : ¬ left = 0) : uI c S F p to y nm s0 s (o_lor seen (o_lshl (1 : Int64) (ntzI left))) (o_land left (o_lsub left (1 : Int64))) (ntzI left) ∧ uM seen + 1 ≤ uM (o_lor seen (o_lshl (1 : Int64) (ntzI left))) := by
  have k40 := b.2.2.2.2.1.1.2
  obtain ⟨h1, h2, h3, h4, h5⟩ := h
  obtain ⟨z0, z1, z2, z3⟩ := ntz_r z
  obtain ⟨v, hv⟩ : ∃ v, v = ntzI left := ⟨_, rfl⟩
  rw [← hv] at z0 z1 z2 z3 ⊢
  obtain ⟨v2, v3, v4⟩ := h2.1 v z0 (Or.inr z2)
  have v5 : ¬ bt seen v := fun w => h2.2 v z0 ⟨w, z2⟩
  have rs : ∀ u, 0 ≤ u → (bt (o_lor seen (o_lshl (1 : Int64) v)) u ↔ bt seen u ∨ u = v) := fun u u0 => left_r z0 (by omega) u0
  have rl : ∀ u, 0 ≤ u → (bt (o_land left (o_lsub left (1 : Int64))) u ↔ bt left u ∧ u ≠ v) := fun u u0 => by
    by_cases u1 : u < 64
    · exact z3 u u0 u1
    · exact ⟨fun w => absurd w (bt_ge (by omega)), fun w => absurd w.1 (bt_ge (by omega))⟩
  have mb : ∀ u, 0 ≤ u → bt seen u ∨ bt left u → bt (o_lor seen (o_lshl (1 : Int64) v)) u ∨ bt (o_land left (o_lsub left (1 : Int64))) u := fun u u0 w => by
    rw [rs u u0, rl u u0]
    by_cases e : u = v
    · exact Or.inl (Or.inr e)
    · rcases w with w | w
      · exact Or.inl (Or.inl w)
      · exact Or.inr ⟨w, e⟩
  refine ⟨⟨h1, ⟨fun u u0 w => h2.1 u u0 ?_, fun u u0 w => ?_⟩, fun t t0 w => v4 t t0 ?_, fun u u0 us un => ?_, fun a e => ?_, fun w => ?_, Or.inr ⟨z0, (rs v z0).mpr (Or.inr rfl)⟩⟩, ?_⟩
  · rw [rs u u0, rl u u0] at w
    rcases w with (w | w) | w
    · exact Or.inl w
    · rw [w]; exact Or.inr z2
    · exact Or.inr w.1
  · rw [rs u u0, rl u u0] at w
    rcases w.1 with g | g
    · exact h2.2 u u0 ⟨g, w.2.1⟩
    · exact w.2.2 g
  · rw [en_n (by omega)] at w
    exact w
  · rcases (rs u u0).mp us with g | g
    · exact (h3 u u0 g).mono b y0 n0 n1 p0 p1 (fun _ _ _ w => w) mb
    · exact absurd g un
  · rcases h4 with w | w
    · exact absurd w.1 (by decide)
    · exact (w.2 a).mono b y0 n0 n1 p0 p1 (fun _ _ _ w => w) mb
  · rcases hto with g | g
    · exact absurd g w
    · exact mb to g.1 (h5 w)
  · unfold uM
    refine cc_lt (x := v.toNat) (fun k hk w => (rs (k : Int) (by omega)).mpr (Or.inl w)) (by omega) ?_ ?_
    · rw [show ((v.toNat : Nat) : Int) = v by omega]; exact v5
    · rw [show ((v.toNat : Nat) : Int) = v by omega]; exact (rs v z0).mpr (Or.inr rfl)
theorem uses_n {s0 : ST} (b : BRI c S F) (h01 : H01 F) (hS : F 70 6 = S) (hr0 : RS F s0) (y0 : 0 ≤ y) (n0 : 0 ≤ nm) (n1 : nm ≤ 9) (p0 : 0 ≤ p) (p1 : p < F c 1) (hto : uT c F p to) : ∀ n : Nat,
    (∀ (seen left : Int64) (b9 l10 l11 l12 : Int) (s : ST), uJ c S F p to y nm s0 s seen left b9 → 300 * (40 - (uM seen : Int)) + 300 * b9 + 1 < (n : Int) → RDH s0 (f_X8_uses2_ n 29 y p nm seen left b9 l10 l11 l12 s) (uA c F p to y nm)) ∧
    (∀ (seen left : Int64) (v l11 l12 : Int) (s : ST), uI c S F p to y nm s0 s seen left v → 300 * (40 - (uM seen : Int)) + 200 < (n : Int) → RDH s0 (f_X8_uses2_ n 83 y p nm seen left 0 v l11 l12 s) (uA c F p to y nm)) ∧
    (∀ (seen left : Int64) (v l11 l12 : Int) (s : ST), uI c S F p to y nm s0 s seen left v → uB c S F p y nm s v → 300 * (40 - (uM seen : Int)) + 195 < (n : Int) → RDH s0 (f_X8_uses2_ n 140 y p nm seen left 0 v l11 l12 s) (uA c F p to y nm)) ∧
    (∀ (seen left : Int64) (v k l12 : Int) (s : ST), uI c S F p to y nm s0 s seen left v → uB c S F p y nm s v → 0 ≤ k → k ≤ F c 0 → uC c S F p y nm s seen left v k 0 → 300 * (40 - (uM seen : Int)) + 190 - 4 * k < (n : Int) → RDH s0 (f_X8_uses2_ n 143 y p nm seen left 0 v k l12 s) (uA c F p to y nm)) ∧
    (∀ (seen left : Int64) (v k e : Int) (s : ST), uI c S F p to y nm s0 s seen left v → uB c S F p y nm s v → 0 ≤ k → k < F c 0 → 0 ≤ e → e ≤ 2 → uC c S F p y nm s seen left v k e → 300 * (40 - (uM seen : Int)) + 189 - 4 * k - e < (n : Int) → RDH s0 (f_X8_uses2_ n 160 y p nm seen left 0 v k e s) (uA c F p to y nm)) := by
  have f := b.2.2.2.2.1
  have n40 := f.1
  intro n
  induction n with
  | zero =>
    have ml : ∀ x : Int64, (uM x : Int) ≤ 40 := fun x => by
      have := cc_le (fun k => bt x (k : Int)) 40
      unfold uM
      omega
    refine ⟨fun seen left b9 _ _ _ s h hm => ?_, fun seen _ _ _ _ _ _ hm => ?_, fun seen _ _ _ _ _ _ _ hm => ?_, fun seen _ _ k _ _ _ _ _ _ _ hm => ?_, fun seen _ _ k e _ _ _ _ _ _ _ _ hm => ?_⟩
    · have := ml seen
      rcases h.2.2.2.1 with w | w <;> omega
    · have := ml seen; omega
    · have := ml seen; omega
    · have := ml seen; omega
    · have := ml seen; omega
  | succ n ih =>
    have rs : ∀ {s : ST} {seen left : Int64} {v : Int}, uI c S F p to y nm s0 s seen left v → RS F s := fun h => hr0.e h.1.1
    refine ⟨fun seen left b9 l10 l11 l12 s h hm => ?_, fun seen left v l11 l12 s h hm => ?_, fun seen left v l11 l12 s h hb hm => ?_, fun seen left v k l12 s h hb k0 k1 hc hm => ?_, fun seen left v k e s h hb k0 k1 e0 e2 hc hm => ?_⟩
    · rw [f_X8_uses2_, if_pos rfl]
      rcases h.2.2.2.1 with w | w
      · have e9 := w.1
        subst e9
        rw [if_pos (show ¬ (1 : Int) = 0 by decide)]
        exact ih.2.1 seen left (-1) 0 0 s (uses_begin h) (by omega)
      · have e9 := w.1
        subst e9
        rw [if_neg (show ¬ ¬ (0 : Int) = 0 from fun q => q rfl), bd_r]
        by_cases z : left = 0
        · rw [if_pos (lcmp_r.mpr z)]
          subst z
          refine uses_fin b n0 p0 p1 hto h.1 h.2.1 h.2.2.1 w.2 (fun q => ?_) y0
          rcases h.2.2.2.2 q with g | g
          · exact g
          · exact absurd g bt_0
        · rw [if_neg (fun q => z (lcmp_r.mp q))]
          have t := uses_take b y0 n0 n1 p0 p1 hto h z
          simp only [bd_r]
          exact ih.2.1 _ _ _ 0 0 s t.1 (by omega)
    · have r := rs h
      rw [f_X8_uses2_, if_neg (by decide), if_pos rfl, bd_r, bd_r, r.g (q := 70) (j := 6) (by omega), hS, r.g (q := 100) (by omega)]
      by_cases z : F 100 (5 * S + p).toNat = v
      · rw [if_neg (fun w => w z)]
        have br := b.2.2.2.2.2.2.1 p p0 p1
        have go : ∀ x, (nm < 2 ∨ 6 ≤ nm) → x = pT c F nm (40 + p) → RDH s0 (f_X8_uses2_ n 140 y p nm seen left 0 v 0 0 (f_X8_hang2 s y x)) (uA c F p to y nm) := fun x hn hx => by
          have p5 := f.2.1.2
          have px : 0 ≤ x ∧ x < 608 := by
            rw [hx]
            unfold pT
            rw [if_neg (by omega)]
            constructor <;> (split <;> omega)
          refine ih.2.2.1 seen left v 0 0 _ (h.hang b y0 n0 n1 p0 p1 px.1 px.2 ⟨40 + p, by omega, ?_, hx⟩) (fun _ _ => ?_) (by omega)
          · have q := (LT.cl (c := c) (F := F) (nm := nm)).1 hn p p0 p1
            rw [← br.1, z] at q
            exact q
          · rw [← hx]
            exact (hang_r y0 px.1 px.2 y0 px.1 px.2).mpr (Or.inr ⟨rfl, rfl⟩)
        have ph : pT c F nm (40 + p) = 13 * (40 + p) + 1 + (if nm < 6 then nm else nm - 4) := by
          unfold pT
          rw [if_neg (by omega)]
        by_cases m2 : nm < 2
        · rw [if_pos m2, bd_r, bd_r]
          refine go _ (Or.inl m2) ?_
          rw [ph, if_pos (by omega)]
          unfold f_X8_procedurePlace2
          omega
        · rw [if_neg m2]
          by_cases m6 : nm < 6
          · rw [if_pos m6]
            exact ih.2.2.1 seen left v 0 0 s h (fun w _ => by omega) (by omega)
          · rw [if_neg m6, bd_r, bd_r]
            refine go _ (Or.inr (by omega)) ?_
            rw [ph, if_neg m6]
            unfold f_X8_procedurePlace2
            omega
      · rw [if_pos z]
        exact ih.2.2.1 seen left v 0 0 s h (fun _ w => absurd w z) (by omega)
    · rw [f_X8_uses2_, if_neg (by decide), if_neg (by decide), if_pos rfl]
      exact ih.2.2.2.1 seen left v 0 0 s h hb (by omega) (by omega) uC.nil (by omega)
    · have r := rs h
      rw [f_X8_uses2_, if_neg (by decide), if_neg (by decide), if_neg (by decide), if_pos rfl, bd_r, bd_r, r.g (q := 70) (j := 6) (by omega), hS, r.g (q := 75) (by omega), b.2.2.1]
      by_cases z : F c 0 ≤ k
      · rw [if_pos z]
        obtain ⟨h1, h2, h3, h4, h5, h6, h7⟩ := h
        have kn : k = F c 0 := by omega
        have kv : uK c S F p y nm s seen left v := ⟨by rw [← kn]; exact hc, hb⟩
        refine ih.1 seen left 0 0 0 0 s ⟨h1, h2, fun u u0 us => ?_, Or.inr ⟨rfl, fun a => ?_⟩, h6⟩ (by omega)
        · by_cases q : u = v
          · rw [q]; exact kv
          · exact h4 u u0 us q
        · by_cases q : v = -1
          · rw [← q]; exact kv
          · exact h5 a q
      · rw [if_neg z]
        exact ih.2.2.2.2 seen left v k 0 s h hb k0 (by omega) (by omega) (by omega) hc (by omega)
    · have r := rs h
      rw [f_X8_uses2_, if_neg (by decide), if_neg (by decide), if_neg (by decide), if_neg (by decide)]
      by_cases z : 2 ≤ e
      · rw [if_pos z]
        exact ih.2.2.2.1 seen left v (k + 1) 0 s h hb (by omega) (by omega) (hc.next (Or.inl z)) (by omega)
      · rw [if_neg z, bd_r, own_r8 r hS b k0 k1]
        have he : e = 0 ∨ e = 1 := by omega
        by_cases ko : F (c + 3) k.toNat = p
        · rw [if_neg (fun w => w ko), bd_r, way_r8 r hS b h01 k0 k1]
          by_cases hv : rW c S F k e = v
          · rw [if_pos hv, bd_r, tells_r8 r hS b k0 k1]
            have v1 : -1 ≤ v := by
              rcases h.2.2.2.2.2.2 with w | w <;> omega
            have wl := way_lt (nm := nm) b k0 k1 ko he n0 n1 hv v1
            by_cases ht : rT c F nm k e = -1
            · rw [if_pos ht, bd_r]
              have hx := hasx2_r (s := s) (x := seen) k0 (show k ≤ 63 by omega)
              by_cases hz : f_X8_has_x2 s seen k = 0
              · rw [if_neg (fun w => w hz), bd_r, bd_r]
                have lr := fun (u : Int) (u0 : 0 ≤ u) => left_r (left := left) k0 (show k ≤ 63 by omega) u0
                refine ih.2.2.2.2 seen _ v k (e + 1) s (h.left b y0 n0 n1 p0 p1 hto k0 k1 ko (hx.mp hz) (wl.2 ht)) hb k0 k1 (by omega) (by omega) ?_ (by omega)
                refine uC.step (hc.mono b y0 n0 n1 (fun _ _ _ w => w) (fun u u0 w => ?_)) (fun _ _ => ⟨fun w => absurd ht w, fun _ => Or.inr ((lr k k0).mpr (Or.inr rfl))⟩)
                rcases w with w | w
                · exact Or.inl w
                · exact Or.inr ((lr u u0).mpr (Or.inl w))
              · rw [if_pos hz]
                refine ih.2.2.2.2 seen left v k (e + 1) s h hb k0 k1 (by omega) (by omega) (uC.step hc (fun _ _ => ⟨fun w => absurd ht w, fun _ => Or.inl ?_⟩)) (by omega)
                exact Classical.byContradiction (fun w => hz (hx.mpr w))
            · rw [if_neg ht, bd_r]
              have w1 := wl.1 ht
              have m : ∀ q, 0 ≤ q → q < 608 → RH s y q → RH (f_X8_hang2 s y (rT c F nm k e)) y q := fun q q0 q1 w => (hang_r y0 w1.2.2.1 w1.2.2.2 y0 q0 q1).mpr (Or.inl w)
              refine ih.2.2.2.2 seen left v k (e + 1) _ (h.hang b y0 n0 n1 p0 p1 w1.2.2.1 w1.2.2.2 ⟨k, k0, w1.1, w1.2.1⟩) (hb.mono p0 p1 f n0 n1 m) k0 k1 (by omega) (by omega) (uC.step (hc.mono b y0 n0 n1 m (fun _ _ w => w)) (fun _ _ => ⟨fun _ => ?_, fun w => absurd w ht⟩)) (by omega)
              exact (hang_r y0 w1.2.2.1 w1.2.2.2 y0 w1.2.2.1 w1.2.2.2).mpr (Or.inr ⟨rfl, rfl⟩)
          · rw [if_neg hv]
            exact ih.2.2.2.2 seen left v k (e + 1) s h hb k0 k1 (by omega) (by omega) (uC.step hc (fun _ w => absurd w hv)) (by omega)
        · rw [if_pos ko]
          exact ih.2.2.2.1 seen left v (k + 1) 0 s h hb (by omega) (by omega) (hc.next (Or.inr ko)) (by omega)
theorem uses_ok {s0 : ST} (b : BRI c S F) (h01 : H01 F) (hS : F 70 6 = S) (hr0 : RS F s0) (y0 : 0 ≤ y) (n0 : 0 ≤ nm) (n1 : nm ≤ 9) (p0 : 0 ≤ p) (p1 : p < F c 1) (hto : uT c F p to) : RDH s0 (f_X8_uses2 s0 y p to nm) (uA c F p to y nm) := by
  have bg := BG_le 184467440737095516170001
  have n40 := b.2.2.2.2.1.1
  have h0 : uH c F p to y nm s0 s0 := ⟨EQI.rfl, fun _ _ _ _ _ w => w, fun _ _ _ _ _ w => Or.inl w⟩
  unfold f_X8_uses2
  by_cases z : to = -1
  · rw [if_neg (fun w => w z)]
    refine (uses_n b h01 hS hr0 y0 n0 n1 p0 p1 hto _).1 0 0 1 0 0 0 s0 ⟨h0, ⟨fun u _ w => ?_, fun u _ w => absurd w.1 bt_0⟩, fun u _ w => absurd w bt_0, Or.inl ⟨rfl, z⟩, fun w => absurd z w⟩ (by omega)
    rcases w with w | w <;> exact absurd w bt_0
  · have g : 0 ≤ to ∧ to < F c 0 ∧ F (c + 3) to.toNat = p := by
      rcases hto with w | w
      · exact absurd w z
      · exact w
    rw [if_pos z, bd_r]
    have r : ∀ u, 0 ≤ u → (bt (o_lshl (1 : Int64) to) u ↔ u = to) := fun u u0 => shl_r g.1 (by omega) u0
    refine (uses_n b h01 hS hr0 y0 n0 n1 p0 p1 hto _).1 0 (o_lshl (1 : Int64) to) 0 0 0 0 s0 ⟨h0, ⟨fun u u0 w => ?_, fun u _ w => absurd w.1 bt_0⟩, fun u _ w => absurd w bt_0, Or.inr ⟨rfl, fun w => absurd w z⟩, fun _ => Or.inr ((r to g.1).mpr rfl)⟩ (by omega)
    have e : u = to := by
      rcases w with w | w
      · exact absurd w bt_0
      · exact (r u u0).mp w
    rw [e, en_n z]
    exact ⟨g.2.1, g.2.2, fun t _ w => w⟩
end V
