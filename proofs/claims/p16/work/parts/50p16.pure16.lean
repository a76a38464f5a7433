/-! claims of blocks and items -/
def HG (c : Nat) (S d pc : Int) (B : Int → Int) (s t : ST) (i : Int) (r : ST × Int) (s1 : ST) : Prop := ∃ k s2 p3, RUN k s1 s2 ∧ f_X3_look s2 = (sI s2 34 2 p3, 125) ∧ s2.1 34 3 = 0 ∧ s2.1 34 2 ≤ p3 ∧ SM c S (d + 1) pc (fun e => if e = d then r.2 else B e) (sI s2 34 2 (p3 + 1)) r.1 ∧ gI r.1 92 r.2 = i ∧ s.1 34 2 + 2 ≤ p3 + 1 ∧ ph S (sI s2 34 2 (p3 + 1)) r.1 + 2 ≤ ph S s t ∧ KE S t r.1
def HB (c : Nat) (S : Int) (g : ST → Int → Int → Int → ST × Int) (d : Int) : Prop := ∀ (pc : Int) (B : Int → Int) (s t : ST) (i p it sec : Int), SM c S d pc B s t → ((i = -1 ∧ gI t 76 S = pc + 1 ∧ 0 ≤ pc) ∨ (CJ t S i ∧ (gI t 79 i = pc ∧ gI t 86 i = -1 ∧ (gI t 77 i = 2 ∨ gI t 77 i = 6 ∨ (gI t 77 i = 3 ∧ gI t 85 i = -1))) ∧ 1 ≤ d)) → (∀ e, 0 ≤ e → e < d → gI t 92 (B e) < i) → it = (if i = -1 then -1 else i - 130 * S) → sec = (if i = -1 then 0 else if gI t 85 i = -1 then 0 else 1) → gI t 76 S - 1 = p → ph S s t ≤ 5 * d → (∃ k s', RUN k (f_X3_openBlock s it sec) s' ∧ BQ c s' (g t i p d).1) ∨ HG c S d pc B s t i (g t i p d) (f_X3_openBlock s it sec)
/-- behind an item: a fault on both sides; or both see the same token and their trees agree -/
def IQ (c : Nat) (S d pc : Int) (B : Int → Int) (s sm t t' : ST) : Prop := (∃ k s', RUN k s s' ∧ BQ c s' t') ∨ (∃ k s' sm' tm' v', RUN k s s' ∧ s'.1 34 3 = 0 ∧ t'.1 70 5 = 0 ∧ f_X3_look s' = (sm', v') ∧ f_X8_here t' = (tm', v') ∧ f_X3_look sm' = (sm', v') ∧ f_X8_here tm' = (tm', v') ∧ SM c S d pc B sm' tm' ∧ s'.1 34 2 ≤ sm'.1 34 2 ∧ sm.1 34 2 < sm'.1 34 2 ∧ ph S sm' tm' ≤ ph S sm t ∧ KE S t tm')
theorem KE.put {S i x : Int} {a : Nat} {t u : ST} (S0 : 0 ≤ S) (h : KE S t u) (h73 : 0 ≤ gI t 73 S) (hi : 130 * S + gI t 73 S ≤ i) (ha : a ≠ 73) (hb : a ≠ 76) (hd : a ≠ 74) (he : a ≠ 92) : KE S t (sI u a i.toNat x) := by
  refine ⟨by rw [gI_nc (fun z => ha z.symm)]; exact h.1, by rw [gI_nc (fun z => hb z.symm)]; exact h.2.1, fun y hy => ?_, by rw [gI_nc (fun z => hd z.symm)]; exact h.2.2.2.1, fun y hy => by rw [gI_nc (fun z => he z.symm)]; exact h.2.2.2.2 y hy⟩
  have q := h.2.2.1 y hy
  have g : ∀ b, gI (sI u a i.toNat x) b y = gI u b y := fun b => sI_ne (fun z => by have := hy.1; have := hy.2; have := z.2; omega)
  rw [g 77, g 78, g 85, g 86]
  exact q
/-- both look on -/
theorem SM.look {c : Nat} {S d pc : Int} {B : Int → Int} {s t : ST} (hc : c = 2 ∨ c = 18) (h : SM c S d pc B s t) : ∃ p v, f_X3_look s = (sI s 34 2 p, v) ∧ f_X8_here t = (sI t 70 4 p, v) ∧ f_X3_look (sI s 34 2 p) = (sI s 34 2 p, v) ∧ f_X8_here (sI t 70 4 p) = (sI t 70 4 p, v) ∧ SM c S d pc B (sI s 34 2 p) (sI t 70 4 p) ∧ s.1 34 2 ≤ p ∧ p ≤ s.1 34 1 ∧ (v = -1 ∧ p = s.1 34 1 ∨ 0 ≤ v ∧ v ≤ 255 ∧ p < s.1 34 1) := by
  obtain ⟨p, v, e1, e2, h1, h2, h3, h4, h5⟩ := look_r h.1
  have ag := h.1.again h1 h2 h4 h5
  exact ⟨p, v, e1, e2, ag.1, ag.2, SM.mv hc h (by have := h.1.2.2.1; omega) h2, h1, h2, h3⟩
theorem ph_mv {S p p' : Int} {s t : ST} : ph S (sI s 34 2 p) (sI t 70 4 p') = ph S s t + s.1 34 2 - p := by
  unfold ph
  rw [gI_nc (show 73 ≠ 70 by decide), gI_nc (show 75 ≠ 70 by decide), sI_eq]
  omega
theorem KE.mv {S p : Int} {t u : ST} (h : KE S t u) : KE S t (sI u 70 4 p) := h.tr (KE.ag (fun _ _ h1 _ _ => sI_ne h1))
/-- from trees that agree on -/
theorem IQ.of {c : Nat} {S d pc : Int} {B : Int → Int} {s sm t s' t' : ST} {k : Nat} (hc : c = 2 ∨ c = 18) (hr : RUN k s s') (h : SM c S d pc B s' t') (hp : sm.1 34 2 < s'.1 34 2) (hph : ph S s' t' ≤ ph S sm t) (ke : KE S t t') : IQ c S d pc B s sm t t' := by
  obtain ⟨p, v, e1, e2, e3, e4, h1, h2, h3, -⟩ := SM.look hc h
  refine Or.inr ⟨k, s', _, _, v, hr, h.1.2.2.2.2.2.2.1, h.1.2.2.2.2.2.2.2, e1, e2, e3, e4, h1, by rw [sI_eq]; exact h2, by rw [sI_eq]; omega, by rw [ph_mv]; omega, ke.mv⟩
/-- one turn that both did -/
theorem IQ.tq {c : Nat} {S d pc : Int} {B : Int → Int} {s sm t s' t' : ST} (hc : c = 2 ∨ c = 18) (h0 : s.1 34 3 = 0) (ht : s' = cT s) (hx : ¬ (f_X3_look s).1.1 34 7 = 0 ∨ ¬ (f_X3_look s).2 = -1) (hsm : s.1 34 2 ≤ sm.1 34 2) (q : TQ c S d pc B sm t s' t') : IQ c S d pc B s sm t t' := by
  rcases q with q | ⟨h, h1, h2, h3⟩
  · refine Or.inl ⟨1, s', RUN.one ⟨h0, ht, hx, fun z => ?_⟩, q⟩
    exact absurd ((q.2.1 q.1).symm.trans z) q.1
  · refine IQ.of hc (RUN.one ⟨h0, ht, hx, fun _ => ⟨by omega, ?_⟩⟩) h h1 h2 h3
    have := h.1.2.2.2.1
    have := h.1.2.2.2.2.1
    omega
/-- a turn that ends with a block opened -/
theorem RT1.opn {c : Nat} {S d pc i it sec : Int} {B : Int → Int} {s u w : ST} (hc : c = 2 ∨ c = 18) (S0 : 0 ≤ S) (d0 : 0 ≤ d) (h : SM c S d pc B u w) (hi : (i = -1 ∧ gI w 76 S = pc + 1 ∧ 0 ≤ pc) ∨ (CJ w S i ∧ (gI w 79 i = pc ∧ gI w 86 i = -1 ∧ (gI w 77 i = 2 ∨ gI w 77 i = 6 ∨ (gI w 77 i = 3 ∧ gI w 85 i = -1))) ∧ 1 ≤ d)) (ho : ∀ e, 0 ≤ e → e < d → gI w 92 (B e) < i) (hit : it = if i = -1 then -1 else i - 130 * S) (hsec : sec = if i = -1 then 0 else if gI w 85 i = -1 then 0 else 1) (h0 : s.1 34 3 = 0) (ht : f_X3_openBlock u it sec = cT s) (hx : ¬ (f_X3_look s).1.1 34 7 = 0 ∨ ¬ (f_X3_look s).2 = -1) (hp : s.1 34 2 ≤ u.1 34 2) : RT1 s (f_X3_openBlock u it sec) := by
  refine ⟨h0, ht, hx, fun z => ?_⟩
  rcases SM.opn hc S0 d0 h hi ho hit hsec with q | ⟨p, q, a1, a2, a3, a4, a5, a6, a7⟩
  · exact absurd ((q.2.1 q.1).symm.trans z) q.1
  · rw [a5, (cOp_v).2.2.2.2.1]
    have := h.1.2.2.2.2.1
    exact ⟨by omega, by omega⟩
theorem RR.top {c : Nat} {S d pc b i : Int} {B' : Int → Int} {s t : ST} (d0 : 0 ≤ d) (h : RR c S (d + 1) pc B' s t) (hb : B' d = b) (hi : gI t 92 b = i) : CB t S b ∧ gI s 45 d = (if i = -1 then -1 else i - 130 * S) ∧ gI s 47 d = (if i = -1 then 0 else if gI t 85 i = -1 then 0 else 1) := by
  have K := h.2.2.2.2.2.1 d d0 (by omega)
  rw [hb, hi] at K
  exact ⟨K.1, K.2.2.1, K.2.2.2.2⟩
/-- the second block of an item, from where it is opened on -/
theorem blk2 {c : Nat} {S d pc i p : Int} {B : Int → Int} {g : ST → Int → Int → Int → ST × Int} {t u w : ST} (hc : c = 2 ∨ c = 18) (S0 : 0 ≤ S) (d0 : 0 ≤ d) (hB : HB c S g d) (h : SM c S d pc B u w) (hi : CJ w S i) (ho : ∀ e, 0 ≤ e → e < d → gI w 92 (B e) < i) (h85 : ¬ gI w 85 i = -1) (hp : gI w 76 S - 1 = p) (hph : ph S u w ≤ 5 * d) (ke : KE S t w) (t73 : 0 ≤ gI t 73 S) (hti : 130 * S + gI t 73 S ≤ i) (h79 : (gI w 79 i = pc ∧ gI w 86 i = -1 ∧ (gI w 77 i = 2 ∨ gI w 77 i = 6 ∨ (gI w 77 i = 3 ∧ gI w 85 i = -1))) ∧ 1 ≤ d) :
    (∃ k s', RUN k (f_X3_openBlock u (i - 130 * S) 1) s' ∧ BQ c s' (sI (g w i p d).1 86 i.toNat (g w i p d).2)) ∨ (∃ k s', RUN k (f_X3_openBlock u (i - 130 * S) 1) s' ∧ SM c S d pc B s' (sI (g w i p d).1 86 i.toNat (g w i p d).2) ∧ u.1 34 2 < s'.1 34 2 ∧ ph S s' (sI (g w i p d).1 86 i.toNat (g w i p d).2) + 2 ≤ ph S u w ∧ KE S t (sI (g w i p d).1 86 i.toNat (g w i p d).2)) := by
  have i0 : 0 ≤ i := by have := hi.1; omega
  rcases hB pc B u w i p (i - 130 * S) 1 h (Or.inr ⟨hi, h79⟩) ho (by rw [if_neg (by omega)]) (by rw [if_neg (by omega), if_neg h85]) hp hph with ⟨k, s', r1, r2⟩ | ⟨k, s2, p3, r1, r2, r3, r4, r5, r6, r7, r8, r9⟩
  · refine Or.inl ⟨k, s', r1, ?_⟩
    unfold BQ at *
    rw [sI_nc (p := 70) (show 70 ≠ 86 by decide)]
    exact r2
  · right
    generalize g w i p d = r at *
    have ci : CJ r.1 S i := by unfold CJ at *; have := r9.1; omega
    have K := RR.top d0 r5.2.1 (if_pos rfl) r6
    rw [if_neg (show ¬ i = -1 by omega), if_neg (show ¬ i = -1 by omega), (r9.2.2.1 i hi).2.2.1, if_neg h85] at K
    have g7 : ∀ a, a ≠ 34 → gI (sI s2 34 2 (p3 + 1)) a = gI (sI s2 34 2 p3) a := fun a ha => funext fun j => (gI_nc ha).trans (gI_nc ha).symm
    have o7 : (sI s2 34 2 p3).1 34 7 = d + 1 := by
      have q := r5.2.1.2.2.2.2.2.2.2
      rw [sI_ne (p := 34) (q := 7) (by omega)] at q ⊢
      exact q
    have cl := clo_2 (s := sI s2 34 2 p3) (p := p3) (d := d) (it := i - 130 * S) (sI_eq _ _ _ _) o7 (by rw [← g7 45 (by decide)]; exact K.2.1) (by have := hi.1; omega) (by rw [← g7 47 (by decide)]; exact K.2.2)
    rw [sI_sI, ← g7 46 (by decide)] at cl
    have sm := SM.cls2 (x := gI (sI s2 34 2 (p3 + 1)) 46 d) (b := r.2) (i := i) (B := B) hc S0 d0 r5 (fun e he => if_neg (by omega)) (if_pos rfl).symm r6.symm ci ((r9.2.2.1 i hi).2.2.2.trans h79.1.2.1) (by rw [(r9.2.2.1 i hi).2.2.1]; exact h85) rfl
    have ct : cT s2 = f_X3_closeBlock (sI s2 34 2 p3) := by
      unfold cT
      rw [r2]
      dsimp only
      rw [if_pos (show ¬ (sI s2 34 2 p3).1 34 7 = 0 by rw [o7]; omega), if_neg (fun z => z rfl)]
    have pl : (sI (sI (sI s2 34 2 (p3 + 1)) 34 7 d) 40 (i - 130 * S).toNat (gI (sI s2 34 2 (p3 + 1)) 46 d)).1 34 2 = p3 + 1 := by
      rw [sI_nc (p := 34) (show 34 ≠ 40 by decide), sI_ne (p := 34) (q := 2) (by omega), sI_eq]
    have le := sm.1.2.2.2.1
    have l5 := sm.1.2.2.2.2.1
    rw [pl] at le
    refine ⟨k + 1, _, r1.tr (RUN.one ⟨r3, ct.symm, Or.inl (by rw [r2]; dsimp only; rw [o7]; omega), fun _ => ?_⟩), ?_⟩
    · rw [cl, pl]
      exact ⟨by omega, by omega⟩
    · rw [cl]
      refine ⟨sm, by rw [pl]; omega, ?_, KE.put S0 (ke.tr r9) t73 hti (by decide) (by decide) (by decide) (by decide)⟩
      unfold ph at r8 ⊢
      rw [pl, gI_nc (show 73 ≠ 86 by decide), gI_nc (show 75 ≠ 86 by decide)]
      rw [sI_eq] at r8
      omega

