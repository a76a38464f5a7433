/-! what the class's reading leaves of the other code (KD), and of statements, kinds and calls (KEf) -/
theorem p_bd {α β : Type} {Q : β → Prop} {x : α} {K : α → β} (h : ∀ y, y = x → Q (K y)) : Q (bd x K) := h x rfl
theorem p_bd2 {α β γ : Type} {Q : β → Prop} {x : α × γ} {K : α → γ → β} (h : ∀ a b, (a, b) = x → Q (K a b)) : Q (bd2 x K) := h x.1 x.2 rfl
theorem p_if {β : Type} {Q : β → Prop} {c : Prop} {_ : Decidable c} {A B : β} (h1 : c → Q A) (h2 : ¬ c → Q B) : Q (if c then A else B) := by
  by_cases z : c
  · rw [if_pos z]; exact h1 z
  · rw [if_neg z]; exact h2 z
theorem sL_nc {s : ST} {c j p : Nat} {a : Int64} (h : p ≠ c) : (sL s c j a).2.1 p = s.2.1 p := funext fun q => if_neg (fun z => h z.1)
def KD (e : Nat) (s s' : ST) : Prop := s'.2.2 34 4 = e ∧ s'.2.2 0 = s.2.2 0 ∧ ∀ p, 2 ≤ p → p ≤ 33 → ¬ (e ≤ p ∧ p ≤ e + 15) → s'.1 p = s.1 p ∧ s'.2.1 p = s.2.1 p
def KDp (e : Nat) (s : ST) (z : ST × Int) : Prop := KD e s z.1
theorem KD.rfl {e : Nat} {s : ST} (h : s.2.2 34 4 = e) : KD e s s := ⟨h, _root_.rfl, fun _ _ _ _ => ⟨_root_.rfl, _root_.rfl⟩⟩
theorem KD.ref {e : Nat} {s u : ST} (a : KD e s u) : u.2.2 34 4 = e := a.1
theorem KD.tr {e : Nat} {s u w : ST} (a : KD e s u) (b : KD e u w) : KD e s w := ⟨b.1, b.2.1.trans a.2.1, fun p h1 h2 h3 => ⟨(b.2.2 p h1 h2 h3).1.trans (a.2.2 p h1 h2 h3).1, (b.2.2 p h1 h2 h3).2.trans (a.2.2 p h1 h2 h3).2⟩⟩
theorem KD.trp {e : Nat} {s u : ST} {w : ST × Int} (a : KD e s u) (b : KDp e u w) : KDp e s w := KD.tr a b
theorem KD.I {e p j : Nat} {s u : ST} {x : Int} (a : KD e s u) (h : p < 2 ∨ 33 < p ∨ (e ≤ p ∧ p ≤ e + 15)) : KD e s (sI u p j x) := ⟨a.1, a.2.1, fun q h1 h2 h3 => ⟨(sI_nc (by omega)).trans (a.2.2 q h1 h2 h3).1, (a.2.2 q h1 h2 h3).2⟩⟩
theorem KD.L {e p j : Nat} {s u : ST} {x : Int64} (a : KD e s u) (h : p < 2 ∨ 33 < p ∨ (e ≤ p ∧ p ≤ e + 15)) : KD e s (sL u p j x) := ⟨a.1, a.2.1, fun q h1 h2 h3 => ⟨(a.2.2 q h1 h2 h3).1, (sL_nc (by omega)).trans (a.2.2 q h1 h2 h3).2⟩⟩
theorem KD.R {e p j x : Nat} {s u : ST} (a : KD e s u) (h : ¬ (p = 34 ∧ j = 4)) (n : p ≠ 0) : KD e s (sR u p j x) := ⟨(show (if 34 = p ∧ 4 = j then x else u.2.2 34 4) = e by rw [if_neg (by omega)]; exact a.1), (funext fun q => (show (if 0 = p ∧ q = j then x else u.2.2 0 q) = u.2.2 0 q from if_neg (fun z => n z.1.symm))).trans a.2.1, a.2.2⟩
def KEf (e : Nat) (s s' : ST) : Prop := KD e s s' ∧ s'.1 e 0 = s.1 e 0 ∧ s'.1 (e + 2) = s.1 (e + 2) ∧ s'.1 (e + 7) = s.1 (e + 7) ∧ s'.2.1 e 2 = s.2.1 e 2
def KEfp (e : Nat) (s : ST) (z : ST × Int) : Prop := KEf e s z.1
theorem KEf.rfl {e : Nat} {s : ST} (h : s.2.2 34 4 = e) : KEf e s s := ⟨KD.rfl h, _root_.rfl, _root_.rfl, _root_.rfl, _root_.rfl⟩
theorem KEf.ref {e : Nat} {s u : ST} (a : KEf e s u) : u.2.2 34 4 = e := a.1.1
theorem KEf.tr {e : Nat} {s u w : ST} (a : KEf e s u) (b : KEf e u w) : KEf e s w := ⟨KD.tr a.1 b.1, b.2.1.trans a.2.1, b.2.2.1.trans a.2.2.1, b.2.2.2.1.trans a.2.2.2.1, b.2.2.2.2.trans a.2.2.2.2⟩
theorem KEf.trp {e : Nat} {s u : ST} {w : ST × Int} (a : KEf e s u) (b : KEfp e u w) : KEfp e s w := KEf.tr a b
theorem KEf.I {e p j : Nat} {s u : ST} {x : Int} (a : KEf e s u) (h : p < 2 ∨ 33 < p ∨ (e ≤ p ∧ p ≤ e + 15)) (n : ¬ (e = p ∧ 0 = j)) (m : e + 2 ≠ p) (m7 : e + 7 ≠ p) : KEf e s (sI u p j x) := ⟨KD.I a.1 h, (sI_ne n).trans a.2.1, (sI_nc m).trans a.2.2.1, (sI_nc m7).trans a.2.2.2.1, a.2.2.2.2⟩
theorem KEf.L {e p j : Nat} {s u : ST} {x : Int64} (a : KEf e s u) (h : p < 2 ∨ 33 < p ∨ (e ≤ p ∧ p ≤ e + 15)) (n : ¬ (e = p ∧ 2 = j)) : KEf e s (sL u p j x) := ⟨KD.L a.1 h, a.2.1, a.2.2.1, a.2.2.2.1, (show (if e = p ∧ 2 = j then x else u.2.1 e 2) = _ by rw [if_neg n]; exact a.2.2.2.2)⟩
theorem KEf.R {e p j x : Nat} {s u : ST} (a : KEf e s u) (h : ¬ (p = 34 ∧ j = 4)) (n : p ≠ 0) : KEf e s (sR u p j x) := ⟨KD.R a.1 h n, a.2.1, a.2.2.1, a.2.2.2.1, a.2.2.2.2⟩
theorem KEf.wl {e : Nat} {s u w : ST} (he : e = 2 ∨ e = 18) (a : KEf e s u) (b : WL e u w) : KEf e s w := by
  have c1 : ∀ p, p ≤ 33 → p ≠ e + 11 → p ≠ e + 12 → p ≠ e + 13 → p ≠ e + 14 → p ≠ e + 15 → w.1 p = u.1 p := fun p h h1 h2 h3 h4 h5 => b.2 p (by omega) (by omega) h1 h2 h3 h4 h5
  refine ⟨⟨by rw [b.1]; exact a.1.1, by rw [b.1]; exact a.1.2.1, fun p h1 h2 h3 => ⟨?_, by rw [b.1]; exact (a.1.2.2 p h1 h2 h3).2⟩⟩, ?_, ?_, ?_, by rw [b.1]; exact a.2.2.2.2⟩
  · rw [c1 p h2 (by omega) (by omega) (by omega) (by omega) (by omega)]
    exact (a.1.2.2 p h1 h2 h3).1
  · rw [c1 e (by omega) (by omega) (by omega) (by omega) (by omega) (by omega)]
    exact a.2.1
  · rw [c1 (e + 2) (by omega) (by omega) (by omega) (by omega) (by omega) (by omega)]
    exact a.2.2.1
  · rw [c1 (e + 7) (by omega) (by omega) (by omega) (by omega) (by omega) (by omega)]
    exact a.2.2.2.1

theorem ke_X3_blame {e : Nat} (he : e = 2 ∨ e = 18) {s : ST} (hs : s.2.2 34 4 = e) {a2 : Int} {a3 : Int} : KEf e s (f_X3_blame s a2 a3) := by
  unfold f_X3_blame
  have ks : KEf e s s := KEf.rfl hs
  refine p_bd (Q := KEf e s) (fun v4 hv4 => ?_)
  refine p_if (Q := KEf e s) (fun _ => ?_) (fun _ => ?_)
  ·
    exact ks
  ·
    refine p_bd (Q := KEf e s) (fun s26 hs26 => ?_)
    have ks26 : KEf e s s26 := by rw [hs26]; exact (KEf.I ks (by omega) (by omega) (by omega) (by omega))
    exact ks26
theorem ke_X3_look_ {e : Nat} (he : e = 2 ∨ e = 18) : ∀ (n : Nat) (lab_ : Nat) (sx : ST), sx.2.2 34 4 = e → KEfp e sx (f_X3_look_ n lab_ sx) := by
  intro n
  induction n with
  | zero =>
    intro lab_ sx  hs
    rw [f_X3_look_]
    exact KEf.rfl hs
  | succ n ih =>
    intro lab_ sx  hs
    rw [f_X3_look_]
    have ksx : KEf e sx sx := KEf.rfl hs
    refine p_bd (Q := KEfp e sx) (fun u34_1 hu34_1 => ?_)
    refine p_bd (Q := KEfp e sx) (fun u34_7 hu34_7 => ?_)
    refine p_bd (Q := KEfp e sx) (fun v3 hv3 => ?_)
    refine p_if (Q := KEfp e sx) (fun _ => ?_) (fun _ => ?_)
    ·
      refine p_if (Q := KEfp e sx) (fun _ => ?_) (fun _ => ?_)
      ·
        exact ksx
      ·
        refine p_bd (Q := KEfp e sx) (fun v33 hv33 => ?_)
        refine p_bd (Q := KEfp e sx) (fun v35 hv35 => ?_)
        exact ksx
    ·
      refine p_bd (Q := KEfp e sx) (fun v57 hv57 => ?_)
      refine p_if (Q := KEfp e sx) (fun _ => ?_) (fun _ => ?_)
      ·
        refine p_bd (Q := KEfp e sx) (fun s64 hs64 => ?_)
        have ks64 : KEf e sx s64 := by rw [hs64]; exact (KEf.I ksx (by omega) (by omega) (by omega) (by omega))
        exact KEf.trp ks64 (ih 0 s64 (KEf.ref ks64))
      ·
        refine p_bd (Q := KEfp e sx) (fun v86 hv86 => ?_)
        refine p_if (Q := KEfp e sx) (fun _ => ?_) (fun _ => ?_)
        ·
          refine p_if (Q := KEfp e sx) (fun _ => ?_) (fun _ => ?_)
          ·
            exact ksx
          ·
            refine p_bd (Q := KEfp e sx) (fun v114 hv114 => ?_)
            refine p_bd (Q := KEfp e sx) (fun v116 hv116 => ?_)
            exact ksx
        ·
          refine p_bd (Q := KEfp e sx) (fun s131 hs131 => ?_)
          have ks131 : KEf e sx s131 := by rw [hs131]; exact (KEf.I ksx (by omega) (by omega) (by omega) (by omega))
          exact KEf.trp ks131 (ih 0 s131 (KEf.ref ks131))
theorem ke_X3_look {e : Nat} (he : e = 2 ∨ e = 18) {s : ST} (hs : s.2.2 34 4 = e) : KEfp e s (f_X3_look s) := by
  unfold f_X3_look
  have ks : KEf e s s := KEf.rfl hs
  refine p_bd (Q := KEfp e s) (fun u34_1 hu34_1 => ?_)
  refine p_bd (Q := KEfp e s) (fun u34_7 hu34_7 => ?_)
  exact KEf.trp ks (ke_X3_look_ he 1519 0 s (KEf.ref ks))
theorem ke_X3_take {e : Nat} (he : e = 2 ∨ e = 18) {s : ST} (hs : s.2.2 34 4 = e) {a2 : Int} : KEf e s (f_X3_take s a2) := by
  unfold f_X3_take
  have ks : KEf e s s := KEf.rfl hs
  refine p_bd2 (Q := KEf e s) (fun s11 v17 hs11 => ?_)
  have ks11 : KEf e s s11 := KEf.tr ks (by have z : KEfp e s (f_X3_look s) := ke_X3_look he (KEf.ref ks); rw [← hs11] at z; exact z)
  refine p_bd (Q := KEf e s) (fun u21 hu21 => ?_)
  refine p_if (Q := KEf e s) (fun _ => ?_) (fun _ => ?_)
  ·
    refine p_bd (Q := KEf e s) (fun s37 hs37 => ?_)
    have ks37 : KEf e s s37 := KEf.tr ks11 (by rw [hs37]; exact ke_X3_blame he (KEf.ref ks11))
    exact ks37
  ·
    refine p_bd (Q := KEf e s) (fun s64 hs64 => ?_)
    have ks64 : KEf e s s64 := by rw [hs64]; exact (KEf.I ks11 (by omega) (by omega) (by omega) (by omega))
    exact ks64
theorem ke_X3_readNumber_ {e : Nat} (he : e = 2 ∨ e = 18) : ∀ (n : Nat) (lab_ : Nat) (l1 : Int) (l2 : Int) (sx : ST), sx.2.2 34 4 = e → KEfp e sx (f_X3_readNumber_ n lab_ l1 l2 sx) := by
  intro n
  induction n with
  | zero =>
    intro lab_ l1 l2 sx  hs
    rw [f_X3_readNumber_]
    exact KEf.rfl hs
  | succ n ih =>
    intro lab_ l1 l2 sx  hs
    rw [f_X3_readNumber_]
    have ksx : KEf e sx sx := KEf.rfl hs
    refine p_bd (Q := KEfp e sx) (fun u34_1 hu34_1 => ?_)
    refine p_bd (Q := KEfp e sx) (fun u34_7 hu34_7 => ?_)
    refine p_bd (Q := KEfp e sx) (fun v3 hv3 => ?_)
    refine p_if (Q := KEfp e sx) (fun _ => ?_) (fun _ => ?_)
    ·
      refine p_if (Q := KEfp e sx) (fun _ => ?_) (fun _ => ?_)
      ·
        exact ksx
      ·
        refine p_bd (Q := KEfp e sx) (fun s33 hs33 => ?_)
        have ks33 : KEf e sx s33 := KEf.tr ksx (by rw [hs33]; exact ke_X3_blame he (KEf.ref ksx))
        exact ks33
    ·
      refine p_bd (Q := KEfp e sx) (fun v67 hv67 => ?_)
      refine p_bd (Q := KEfp e sx) (fun v71 hv71 => ?_)
      refine p_if (Q := KEfp e sx) (fun _ => ?_) (fun _ => ?_)
      ·
        refine p_if (Q := KEfp e sx) (fun _ => ?_) (fun _ => ?_)
        ·
          exact ksx
        ·
          refine p_bd (Q := KEfp e sx) (fun s99 hs99 => ?_)
          have ks99 : KEf e sx s99 := KEf.tr ksx (by rw [hs99]; exact ke_X3_blame he (KEf.ref ksx))
          exact ks99
      ·
        refine p_if (Q := KEfp e sx) (fun _ => ?_) (fun _ => ?_)
        ·
          refine p_bd (Q := KEfp e sx) (fun s131 hs131 => ?_)
          have ks131 : KEf e sx s131 := by rw [hs131]; exact (KEf.I ksx (by omega) (by omega) (by omega) (by omega))
          exact KEf.trp ks131 (ih 7 l1 l2 s131 (KEf.ref ks131))
        ·
          refine p_bd (Q := KEfp e sx) (fun v143 hv143 => ?_)
          refine p_bd (Q := KEfp e sx) (fun v155 hv155 => ?_)
          refine p_bd (Q := KEfp e sx) (fun v157 hv157 => ?_)
          refine p_bd (Q := KEfp e sx) (fun v159 hv159 => ?_)
          refine p_bd (Q := KEfp e sx) (fun s164 hs164 => ?_)
          have ks164 : KEf e sx s164 := by rw [hs164]; exact (KEf.I ksx (by omega) (by omega) (by omega) (by omega))
          exact KEf.trp ks164 (ih 7 l1 v159 s164 (KEf.ref ks164))
theorem ke_X3_readNumber {e : Nat} (he : e = 2 ∨ e = 18) {s : ST} (hs : s.2.2 34 4 = e) : KEfp e s (f_X3_readNumber s) := by
  unfold f_X3_readNumber
  have ks : KEf e s s := KEf.rfl hs
  refine p_bd (Q := KEfp e s) (fun u34_1 hu34_1 => ?_)
  refine p_bd (Q := KEfp e s) (fun u34_7 hu34_7 => ?_)
  refine p_bd (Q := KEfp e s) (fun v177 hv177 => ?_)
  exact KEf.trp ks (ke_X3_readNumber_ he 1519 7 v177 0 s (KEf.ref ks))
theorem ke_X3_readOperand {e : Nat} (he : e = 2 ∨ e = 18) {s : ST} (hs : s.2.2 34 4 = e) : KEfp e s (f_X3_readOperand s) := by
  unfold f_X3_readOperand
  have ks : KEf e s s := KEf.rfl hs
  refine p_bd2 (Q := KEfp e s) (fun s11 v17 hs11 => ?_)
  have ks11 : KEf e s s11 := KEf.tr ks (by have z : KEfp e s (f_X3_look s) := ke_X3_look he (KEf.ref ks); rw [← hs11] at z; exact z)
  refine p_bd (Q := KEfp e s) (fun u21 hu21 => ?_)
  refine p_bd (Q := KEfp e s) (fun v27 hv27 => ?_)
  refine p_if (Q := KEfp e s) (fun _ => ?_) (fun _ => ?_)
  ·
    refine p_bd (Q := KEfp e s) (fun v34 hv34 => ?_)
    refine p_if (Q := KEfp e s) (fun _ => ?_) (fun _ => ?_)
    ·
      refine p_bd (Q := KEfp e s) (fun s41 hs41 => ?_)
      have ks41 : KEf e s s41 := by rw [hs41]; exact (KEf.I ks11 (by omega) (by omega) (by omega) (by omega))
      exact ks41
    ·
      refine p_bd (Q := KEfp e s) (fun s63 hs63 => ?_)
      have ks63 : KEf e s s63 := KEf.tr ks11 (by rw [hs63]; exact ke_X3_blame he (KEf.ref ks11))
      exact ks63
  ·
    refine p_bd2 (Q := KEfp e s) (fun s96 v101 hs96 => ?_)
    have ks96 : KEf e s s96 := KEf.tr ks11 (by have z : KEfp e s11 (f_X3_readNumber s11) := ke_X3_readNumber he (KEf.ref ks11); rw [← hs96] at z; exact z)
    refine p_bd (Q := KEfp e s) (fun v109 hv109 => ?_)
    exact ks96
theorem ke_X5_add {e : Nat} (he : e = 2 ∨ e = 18) {s : ST} (hs : s.2.2 34 4 = e) {a2 : Int} : KEfp e s (f_X5_add s a2) := by
  unfold f_X5_add
  have ks : KEf e s s := KEf.rfl hs
  refine p_bd (Q := KEfp e s) (fun v4 hv4 => ?_)
  refine p_if (Q := KEfp e s) (fun _ => ?_) (fun _ => ?_)
  ·
    refine p_bd (Q := KEfp e s) (fun s12 hs12 => ?_)
    have ks12 : KEf e s s12 := by rw [hs12]; exact (KEf.I ks (by omega) (by omega) (by omega) (by omega))
    refine p_bd (Q := KEfp e s) (fun s14 hs14 => ?_)
    have ks14 : KEf e s s14 := by rw [hs14]; exact (KEf.I ks12 (by omega) (by omega) (by omega) (by omega))
    refine p_bd (Q := KEfp e s) (fun s16 hs16 => ?_)
    have ks16 : KEf e s s16 := by rw [hs16]; exact (KEf.I ks14 (by omega) (by omega) (by omega) (by omega))
    refine p_bd (Q := KEfp e s) (fun s18 hs18 => ?_)
    have ks18 : KEf e s s18 := by rw [hs18]; exact (KEf.I ks16 (by omega) (by omega) (by omega) (by omega))
    refine p_bd (Q := KEfp e s) (fun s20 hs20 => ?_)
    have ks20 : KEf e s s20 := by rw [hs20]; exact (KEf.I ks18 (by omega) (by omega) (by omega) (by omega))
    refine p_bd (Q := KEfp e s) (fun s22 hs22 => ?_)
    have ks22 : KEf e s s22 := by rw [hs22]; exact (KEf.I ks20 (by omega) (by omega) (by omega) (by omega))
    exact ks22
  ·
    exact ks
theorem ke_X3_addItem {e : Nat} (he : e = 2 ∨ e = 18) {s : ST} (hs : s.2.2 34 4 = e) {a2 : Int} : KEfp e s (f_X3_addItem s a2) := by
  unfold f_X3_addItem
  have ks : KEf e s s := KEf.rfl hs
  refine p_bd2 (Q := KEfp e s) (fun s13 v19 hs13 => ?_)
  have ks13 : KEf e s s13 := KEf.tr ks (by have z : KEfp e s (f_X5_add s a2) := ke_X5_add he (KEf.ref ks); rw [← hs13] at z; exact z)
  refine p_bd (Q := KEfp e s) (fun u23 hu23 => ?_)
  refine p_bd (Q := KEfp e s) (fun u25 hu25 => ?_)
  refine p_if (Q := KEfp e s) (fun _ => ?_) (fun _ => ?_)
  ·
    refine p_bd (Q := KEfp e s) (fun v32 hv32 => ?_)
    refine p_bd (Q := KEfp e s) (fun s34 hs34 => ?_)
    have ks34 : KEf e s s34 := by rw [hs34]; exact (KEf.I ks13 (by omega) (by omega) (by omega) (by omega))
    refine p_bd (Q := KEfp e s) (fun s39 hs39 => ?_)
    have ks39 : KEf e s s39 := by rw [hs39]; exact (KEf.I ks34 (by omega) (by omega) (by omega) (by omega))
    exact ks39
  ·
    refine p_bd (Q := KEfp e s) (fun s61 hs61 => ?_)
    have ks61 : KEf e s s61 := KEf.tr ks13 (by rw [hs61]; exact ke_X3_blame he (KEf.ref ks13))
    exact ks61
theorem ke_X3_openBlock {e : Nat} (he : e = 2 ∨ e = 18) {s : ST} (hs : s.2.2 34 4 = e) {a2 : Int} {a3 : Int} : KEf e s (f_X3_openBlock s a2 a3) := by
  unfold f_X3_openBlock
  have ks : KEf e s s := KEf.rfl hs
  refine p_bd2 (Q := KEf e s) (fun s5 v11 hs5 => ?_)
  have ks5 : KEf e s s5 := KEf.tr ks (by have z : KEfp e s (f_X3_look s) := ke_X3_look he (KEf.ref ks); rw [← hs5] at z; exact z)
  refine p_bd (Q := KEf e s) (fun u13 hu13 => ?_)
  refine p_bd (Q := KEf e s) (fun u15 hu15 => ?_)
  refine p_if (Q := KEf e s) (fun _ => ?_) (fun _ => ?_)
  ·
    refine p_if (Q := KEf e s) (fun _ => ?_) (fun _ => ?_)
    ·
      refine p_bd (Q := KEf e s) (fun s25 hs25 => ?_)
      have ks25 : KEf e s s25 := by rw [hs25]; exact (KEf.I ks5 (by omega) (by omega) (by omega) (by omega))
      refine p_bd (Q := KEf e s) (fun s28 hs28 => ?_)
      have ks28 : KEf e s s28 := by rw [hs28]; exact (KEf.I ks25 (by omega) (by omega) (by omega) (by omega))
      refine p_bd (Q := KEf e s) (fun s31 hs31 => ?_)
      have ks31 : KEf e s s31 := by rw [hs31]; exact (KEf.I ks28 (by omega) (by omega) (by omega) (by omega))
      refine p_bd (Q := KEf e s) (fun s34 hs34 => ?_)
      have ks34 : KEf e s s34 := by rw [hs34]; exact (KEf.I ks31 (by omega) (by omega) (by omega) (by omega))
      refine p_bd (Q := KEf e s) (fun s39 hs39 => ?_)
      have ks39 : KEf e s s39 := by rw [hs39]; exact (KEf.I ks34 (by omega) (by omega) (by omega) (by omega))
      exact ks39
    ·
      refine p_bd (Q := KEf e s) (fun s49 hs49 => ?_)
      have ks49 : KEf e s s49 := KEf.tr ks5 (by rw [hs49]; exact ke_X3_blame he (KEf.ref ks5))
      exact ks49
  ·
    refine p_bd (Q := KEf e s) (fun s69 hs69 => ?_)
    have ks69 : KEf e s s69 := KEf.tr ks5 (by rw [hs69]; exact ke_X3_blame he (KEf.ref ks5))
    exact ks69
theorem ke_X3_readNumbers {e : Nat} (he : e = 2 ∨ e = 18) {s : ST} (hs : s.2.2 34 4 = e) {a2 : Int} : KEf e s (f_X3_readNumbers s a2) := by
  unfold f_X3_readNumbers
  have ks : KEf e s s := KEf.rfl hs
  refine p_bd (Q := KEf e s) (fun c3 hc3 => ?_)
  have ec3 : c3 = e := by rw [hc3]; exact KEf.ref ks
  refine p_bd2 (Q := KEf e s) (fun s13 v18 hs13 => ?_)
  have ks13 : KEf e s s13 := KEf.tr ks (by have z : KEfp e s (f_X3_readOperand s) := ke_X3_readOperand he (KEf.ref ks); rw [← hs13] at z; exact z)
  refine p_bd (Q := KEf e s) (fun s26 hs26 => ?_)
  have ks26 : KEf e s s26 := by rw [hs26]; exact (KEf.I ks13 (by omega) (by omega) (by omega) (by omega))
  refine p_bd2 (Q := KEf e s) (fun s37 v43 hs37 => ?_)
  have ks37 : KEf e s s37 := KEf.tr ks26 (by have z : KEfp e s26 (f_X3_look s26) := ke_X3_look he (KEf.ref ks26); rw [← hs37] at z; exact z)
  refine p_bd (Q := KEf e s) (fun u47 hu47 => ?_)
  refine p_if (Q := KEf e s) (fun _ => ?_) (fun _ => ?_)
  ·
    refine p_bd (Q := KEf e s) (fun s56 hs56 => ?_)
    have ks56 : KEf e s s56 := by rw [hs56]; exact (KEf.I ks37 (by omega) (by omega) (by omega) (by omega))
    refine p_bd (Q := KEf e s) (fun c58 hc58 => ?_)
    have ec58 : c58 = e := by rw [hc58]; exact KEf.ref ks56
    refine p_bd (Q := KEf e s) (fun s60 hs60 => ?_)
    have ks60 : KEf e s s60 := by rw [hs60]; exact (KEf.I ks56 (by omega) (by omega) (by omega) (by omega))
    refine p_bd (Q := KEf e s) (fun c62 hc62 => ?_)
    have ec62 : c62 = e := by rw [hc62]; exact KEf.ref ks60
    refine p_bd2 (Q := KEf e s) (fun s73 v78 hs73 => ?_)
    have ks73 : KEf e s s73 := KEf.tr ks60 (by have z : KEfp e s60 (f_X3_readOperand s60) := ke_X3_readOperand he (KEf.ref ks60); rw [← hs73] at z; exact z)
    refine p_bd (Q := KEf e s) (fun s86 hs86 => ?_)
    have ks86 : KEf e s s86 := by rw [hs86]; exact (KEf.I ks73 (by omega) (by omega) (by omega) (by omega))
    exact ks86
  ·
    refine p_if (Q := KEf e s) (fun _ => ?_) (fun _ => ?_)
    ·
      refine p_bd (Q := KEf e s) (fun s103 hs103 => ?_)
      have ks103 : KEf e s s103 := by rw [hs103]; exact (KEf.I ks37 (by omega) (by omega) (by omega) (by omega))
      refine p_bd (Q := KEf e s) (fun c105 hc105 => ?_)
      have ec105 : c105 = e := by rw [hc105]; exact KEf.ref ks103
      refine p_bd (Q := KEf e s) (fun s107 hs107 => ?_)
      have ks107 : KEf e s s107 := by rw [hs107]; exact (KEf.I ks103 (by omega) (by omega) (by omega) (by omega))
      refine p_bd (Q := KEf e s) (fun c109 hc109 => ?_)
      have ec109 : c109 = e := by rw [hc109]; exact KEf.ref ks107
      refine p_bd2 (Q := KEf e s) (fun s120 v125 hs120 => ?_)
      have ks120 : KEf e s s120 := KEf.tr ks107 (by have z : KEfp e s107 (f_X3_readOperand s107) := ke_X3_readOperand he (KEf.ref ks107); rw [← hs120] at z; exact z)
      refine p_bd (Q := KEf e s) (fun s133 hs133 => ?_)
      have ks133 : KEf e s s133 := by rw [hs133]; exact (KEf.I ks120 (by omega) (by omega) (by omega) (by omega))
      exact ks133
    ·
      refine p_if (Q := KEf e s) (fun _ => ?_) (fun _ => ?_)
      ·
        refine p_bd (Q := KEf e s) (fun s150 hs150 => ?_)
        have ks150 : KEf e s s150 := by rw [hs150]; exact (KEf.I ks37 (by omega) (by omega) (by omega) (by omega))
        refine p_bd (Q := KEf e s) (fun c152 hc152 => ?_)
        have ec152 : c152 = e := by rw [hc152]; exact KEf.ref ks150
        refine p_bd (Q := KEf e s) (fun s154 hs154 => ?_)
        have ks154 : KEf e s s154 := by rw [hs154]; exact (KEf.I ks150 (by omega) (by omega) (by omega) (by omega))
        refine p_bd (Q := KEf e s) (fun c156 hc156 => ?_)
        have ec156 : c156 = e := by rw [hc156]; exact KEf.ref ks154
        refine p_bd2 (Q := KEf e s) (fun s167 v172 hs167 => ?_)
        have ks167 : KEf e s s167 := KEf.tr ks154 (by have z : KEfp e s154 (f_X3_readOperand s154) := ke_X3_readOperand he (KEf.ref ks154); rw [← hs167] at z; exact z)
        refine p_bd (Q := KEf e s) (fun s180 hs180 => ?_)
        have ks180 : KEf e s s180 := by rw [hs180]; exact (KEf.I ks167 (by omega) (by omega) (by omega) (by omega))
        exact ks180
      ·
        refine p_if (Q := KEf e s) (fun _ => ?_) (fun _ => ?_)
        ·
          exact ks37
        ·
          refine p_bd (Q := KEf e s) (fun s207 hs207 => ?_)
          have ks207 : KEf e s s207 := by rw [hs207]; exact (KEf.I ks37 (by omega) (by omega) (by omega) (by omega))
          refine p_bd (Q := KEf e s) (fun c209 hc209 => ?_)
          have ec209 : c209 = e := by rw [hc209]; exact KEf.ref ks207
          refine p_bd (Q := KEf e s) (fun s211 hs211 => ?_)
          have ks211 : KEf e s s211 := by rw [hs211]; exact (KEf.I ks207 (by omega) (by omega) (by omega) (by omega))
          refine p_bd (Q := KEf e s) (fun c213 hc213 => ?_)
          have ec213 : c213 = e := by rw [hc213]; exact KEf.ref ks211
          refine p_bd2 (Q := KEf e s) (fun s224 v229 hs224 => ?_)
          have ks224 : KEf e s s224 := KEf.tr ks211 (by have z : KEfp e s211 (f_X3_readOperand s211) := ke_X3_readOperand he (KEf.ref ks211); rw [← hs224] at z; exact z)
          refine p_bd (Q := KEf e s) (fun s237 hs237 => ?_)
          have ks237 : KEf e s s237 := by rw [hs237]; exact (KEf.I ks224 (by omega) (by omega) (by omega) (by omega))
          exact ks237
theorem ke_X3_readCondition {e : Nat} (he : e = 2 ∨ e = 18) {s : ST} (hs : s.2.2 34 4 = e) {a2 : Int} {a3 : Int} : KEf e s (f_X3_readCondition s a2 a3) := by
  unfold f_X3_readCondition
  have ks : KEf e s s := KEf.rfl hs
  refine p_bd (Q := KEf e s) (fun c1 hc1 => ?_)
  have ec1 : c1 = e := by rw [hc1]; exact KEf.ref ks
  refine p_bd2 (Q := KEf e s) (fun s3 v8 hs3 => ?_)
  have ks3 : KEf e s s3 := KEf.tr ks (by have z : KEfp e s (f_X3_readOperand s) := ke_X3_readOperand he (KEf.ref ks); rw [← hs3] at z; exact z)
  refine p_bd (Q := KEf e s) (fun s10 hs10 => ?_)
  have ks10 : KEf e s s10 := by rw [hs10]; exact (KEf.I ks3 (by omega) (by omega) (by omega) (by omega))
  refine p_bd (Q := KEf e s) (fun s12 hs12 => ?_)
  have ks12 : KEf e s s12 := KEf.tr ks10 (by rw [hs12]; exact ke_X3_take he (KEf.ref ks10))
  refine p_bd (Q := KEf e s) (fun c18 hc18 => ?_)
  have ec18 : c18 = e := by rw [hc18]; exact KEf.ref ks12
  refine p_bd2 (Q := KEf e s) (fun s20 v25 hs20 => ?_)
  have ks20 : KEf e s s20 := KEf.tr ks12 (by have z : KEfp e s12 (f_X3_readOperand s12) := ke_X3_readOperand he (KEf.ref ks12); rw [← hs20] at z; exact z)
  refine p_bd (Q := KEf e s) (fun s27 hs27 => ?_)
  have ks27 : KEf e s s27 := by rw [hs27]; exact (KEf.I ks20 (by omega) (by omega) (by omega) (by omega))
  refine p_bd (Q := KEf e s) (fun s29 hs29 => ?_)
  have ks29 : KEf e s s29 := KEf.tr ks27 (by rw [hs29]; exact ke_X3_openBlock he (KEf.ref ks27))
  exact ks29
theorem ke_X3_readTry {e : Nat} (he : e = 2 ∨ e = 18) {s : ST} (hs : s.2.2 34 4 = e) : KEf e s (f_X3_readTry s) := by
  unfold f_X3_readTry
  have ks : KEf e s s := KEf.rfl hs
  refine p_bd2 (Q := KEf e s) (fun s5 v11 hs5 => ?_)
  have ks5 : KEf e s s5 := KEf.tr ks (by have z : KEfp e s (f_X3_addItem s (-1)) := ke_X3_addItem he (KEf.ref ks); rw [← hs5] at z; exact z)
  refine p_bd (Q := KEf e s) (fun u13 hu13 => ?_)
  refine p_bd (Q := KEf e s) (fun s20 hs20 => ?_)
  have ks20 : KEf e s s20 := by rw [hs20]; exact (KEf.I ks5 (by omega) (by omega) (by omega) (by omega))
  refine p_bd (Q := KEf e s) (fun s28 hs28 => ?_)
  have ks28 : KEf e s s28 := KEf.tr ks20 (by rw [hs28]; exact ke_X3_openBlock he (KEf.ref ks20))
  exact ks28
theorem ke_X3_readSecond {e : Nat} (he : e = 2 ∨ e = 18) {s : ST} (hs : s.2.2 34 4 = e) {a2 : Int} : KEf e s (f_X3_readSecond s a2) := by
  unfold f_X3_readSecond
  have ks : KEf e s s := KEf.rfl hs
  refine p_bd2 (Q := KEf e s) (fun s3 v9 hs3 => ?_)
  have ks3 : KEf e s s3 := KEf.tr ks (by have z : KEfp e s (f_X3_look s) := ke_X3_look he (KEf.ref ks); rw [← hs3] at z; exact z)
  refine p_bd (Q := KEf e s) (fun u11 hu11 => ?_)
  refine p_bd (Q := KEf e s) (fun v13 hv13 => ?_)
  refine p_if (Q := KEf e s) (fun _ => ?_) (fun _ => ?_)
  ·
    refine p_bd (Q := KEf e s) (fun c17 hc17 => ?_)
    have ec17 : c17 = e := by rw [hc17]; exact KEf.ref ks3
    refine p_bd (Q := KEf e s) (fun v19 hv19 => ?_)
    refine p_if (Q := KEf e s) (fun _ => ?_) (fun _ => ?_)
    ·
      exact ks3
    ·
      refine p_if (Q := KEf e s) (fun _ => ?_) (fun _ => ?_)
      ·
        exact ks3
      ·
        refine p_bd (Q := KEf e s) (fun s30 hs30 => ?_)
        have ks30 : KEf e s s30 := by rw [hs30]; exact (KEf.I ks3 (by omega) (by omega) (by omega) (by omega))
        refine p_bd (Q := KEf e s) (fun s35 hs35 => ?_)
        have ks35 : KEf e s s35 := KEf.tr ks30 (by rw [hs35]; exact ke_X3_openBlock he (KEf.ref ks30))
        exact ks35
  ·
    refine p_bd (Q := KEf e s) (fun v45 hv45 => ?_)
    refine p_if (Q := KEf e s) (fun _ => ?_) (fun _ => ?_)
    ·
      refine p_bd (Q := KEf e s) (fun s53 hs53 => ?_)
      have ks53 : KEf e s s53 := KEf.tr ks3 (by rw [hs53]; exact ke_X3_blame he (KEf.ref ks3))
      exact ks53
    ·
      refine p_bd (Q := KEf e s) (fun v67 hv67 => ?_)
      refine p_if (Q := KEf e s) (fun _ => ?_) (fun _ => ?_)
      ·
        refine p_bd (Q := KEf e s) (fun s75 hs75 => ?_)
        have ks75 : KEf e s s75 := by rw [hs75]; exact (KEf.I ks3 (by omega) (by omega) (by omega) (by omega))
        refine p_bd (Q := KEf e s) (fun s77 hs77 => ?_)
        have ks77 : KEf e s s77 := by rw [hs77]; exact (KEf.I ks75 (by omega) (by omega) (by omega) (by omega))
        refine p_bd (Q := KEf e s) (fun s82 hs82 => ?_)
        have ks82 : KEf e s s82 := KEf.tr ks77 (by rw [hs82]; exact ke_X3_openBlock he (KEf.ref ks77))
        exact ks82
      ·
        refine p_bd (Q := KEf e s) (fun s93 hs93 => ?_)
        have ks93 : KEf e s s93 := KEf.tr ks3 (by rw [hs93]; exact ke_X3_blame he (KEf.ref ks3))
        exact ks93
theorem ke_X3_closeBlock {e : Nat} (he : e = 2 ∨ e = 18) {s : ST} (hs : s.2.2 34 4 = e) : KEf e s (f_X3_closeBlock s) := by
  unfold f_X3_closeBlock
  have ks : KEf e s s := KEf.rfl hs
  refine p_bd (Q := KEf e s) (fun v1 hv1 => ?_)
  refine p_bd (Q := KEf e s) (fun s6 hs6 => ?_)
  have ks6 : KEf e s s6 := by rw [hs6]; exact (KEf.I ks (by omega) (by omega) (by omega) (by omega))
  refine p_bd (Q := KEf e s) (fun v8 hv8 => ?_)
  refine p_bd (Q := KEf e s) (fun s13 hs13 => ?_)
  have ks13 : KEf e s s13 := by rw [hs13]; exact (KEf.I ks6 (by omega) (by omega) (by omega) (by omega))
  refine p_bd (Q := KEf e s) (fun v16 hv16 => ?_)
  refine p_if (Q := KEf e s) (fun _ => ?_) (fun _ => ?_)
  ·
    refine p_bd (Q := KEf e s) (fun v21 hv21 => ?_)
    refine p_if (Q := KEf e s) (fun _ => ?_) (fun _ => ?_)
    ·
      refine p_bd (Q := KEf e s) (fun v26 hv26 => ?_)
      refine p_bd (Q := KEf e s) (fun s28 hs28 => ?_)
      have ks28 : KEf e s s28 := by rw [hs28]; exact (KEf.I ks13 (by omega) (by omega) (by omega) (by omega))
      refine p_bd (Q := KEf e s) (fun s36 hs36 => ?_)
      have ks36 : KEf e s s36 := KEf.tr ks28 (by rw [hs36]; exact ke_X3_readSecond he (KEf.ref ks28))
      exact ks36
    ·
      refine p_bd (Q := KEf e s) (fun v46 hv46 => ?_)
      refine p_bd (Q := KEf e s) (fun s48 hs48 => ?_)
      have ks48 : KEf e s s48 := by rw [hs48]; exact (KEf.I ks13 (by omega) (by omega) (by omega) (by omega))
      exact ks48
  ·
    refine p_bd (Q := KEf e s) (fun c51 hc51 => ?_)
    have ec51 : c51 = e := by rw [hc51]; exact KEf.ref ks13
    refine p_bd (Q := KEf e s) (fun v53 hv53 => ?_)
    refine p_bd (Q := KEf e s) (fun v58 hv58 => ?_)
    refine p_bd (Q := KEf e s) (fun s60 hs60 => ?_)
    have ks60 : KEf e s s60 := by rw [hs60]; exact (KEf.I ks13 (by omega) (by omega) (by omega) (by omega))
    exact ks60
theorem ke_X3_readProcedure {e : Nat} (he : e = 2 ∨ e = 18) {s : ST} (hs : s.2.2 34 4 = e) : KEf e s (f_X3_readProcedure s) := by
  unfold f_X3_readProcedure
  have ks : KEf e s s := KEf.rfl hs
  refine p_bd2 (Q := KEf e s) (fun s5 v11 hs5 => ?_)
  have ks5 : KEf e s s5 := KEf.tr ks (by have z : KEfp e s (f_X3_look s) := ke_X3_look he (KEf.ref ks); rw [← hs5] at z; exact z)
  refine p_bd (Q := KEf e s) (fun u13 hu13 => ?_)
  refine p_if (Q := KEf e s) (fun _ => ?_) (fun _ => ?_)
  ·
    refine p_bd (Q := KEf e s) (fun s26 hs26 => ?_)
    have ks26 : KEf e s s26 := KEf.tr ks5 (by rw [hs26]; exact ke_X3_blame he (KEf.ref ks5))
    exact ks26
  ·
    refine p_if (Q := KEf e s) (fun _ => ?_) (fun _ => ?_)
    ·
      refine p_bd (Q := KEf e s) (fun c41 hc41 => ?_)
      have ec41 : c41 = e := by rw [hc41]; exact KEf.ref ks5
      refine p_bd (Q := KEf e s) (fun v43 hv43 => ?_)
      refine p_if (Q := KEf e s) (fun _ => ?_) (fun _ => ?_)
      ·
        refine p_bd (Q := KEf e s) (fun s54 hs54 => ?_)
        have ks54 : KEf e s s54 := KEf.tr ks5 (by rw [hs54]; exact ke_X3_blame he (KEf.ref ks5))
        exact ks54
      ·
        refine p_bd (Q := KEf e s) (fun c67 hc67 => ?_)
        have ec67 : c67 = e := by rw [hc67]; exact KEf.ref ks5
        refine p_bd (Q := KEf e s) (fun v69 hv69 => ?_)
        refine p_if (Q := KEf e s) (fun _ => ?_) (fun _ => ?_)
        ·
          refine p_bd (Q := KEf e s) (fun s78 hs78 => ?_)
          have ks78 : KEf e s s78 := by rw [hs78]; exact (KEf.I ks5 (by omega) (by omega) (by omega) (by omega))
          refine p_bd (Q := KEf e s) (fun c80 hc80 => ?_)
          have ec80 : c80 = e := by rw [hc80]; exact KEf.ref ks78
          refine p_bd (Q := KEf e s) (fun v82 hv82 => ?_)
          refine p_bd (Q := KEf e s) (fun s86 hs86 => ?_)
          have ks86 : KEf e s s86 := by rw [hs86]; exact (KEf.I ks78 (by omega) (by omega) (by omega) (by omega))
          refine p_bd (Q := KEf e s) (fun s94 hs94 => ?_)
          have ks94 : KEf e s s94 := KEf.tr ks86 (by rw [hs94]; exact ke_X3_openBlock he (KEf.ref ks86))
          exact ks94
        ·
          refine p_bd (Q := KEf e s) (fun s110 hs110 => ?_)
          have ks110 : KEf e s s110 := KEf.tr ks5 (by rw [hs110]; exact ke_X3_blame he (KEf.ref ks5))
          exact ks110
    ·
      refine p_bd (Q := KEf e s) (fun s130 hs130 => ?_)
      have ks130 : KEf e s s130 := KEf.tr ks5 (by rw [hs130]; exact ke_X3_blame he (KEf.ref ks5))
      exact ks130
theorem ke_X0_walk_ {e : Nat} (he : e = 2 ∨ e = 18) : ∀ (n : Nat) (lab_ : Nat) (l0 : Nat) (l1 : Int) (l2 : Int64) (l4 : Int) (sx : ST), l0 = e → sx.2.2 34 4 = e → KEf e sx (f_X0_walk_ n lab_ l0 l1 l2 l4 sx) := by
  intro n
  induction n with
  | zero =>
    intro lab_ l0 l1 l2 l4 sx el0 hs
    rw [f_X0_walk_]
    exact KEf.rfl hs
  | succ n ih =>
    intro lab_ l0 l1 l2 l4 sx el0 hs
    rw [f_X0_walk_]
    have ksx : KEf e sx sx := KEf.rfl hs
    refine p_bd (Q := KEf e sx) (fun v1 hv1 => ?_)
    refine p_if (Q := KEf e sx) (fun _ => ?_) (fun _ => ?_)
    ·
      refine p_bd (Q := KEf e sx) (fun v9 hv9 => ?_)
      refine p_if (Q := KEf e sx) (fun _ => ?_) (fun _ => ?_)
      ·
        exact ksx
      ·
        refine p_bd (Q := KEf e sx) (fun v14 hv14 => ?_)
        refine p_bd (Q := KEf e sx) (fun v16 hv16 => ?_)
        refine p_bd (Q := KEf e sx) (fun v18 hv18 => ?_)
        refine p_bd (Q := KEf e sx) (fun s20 hs20 => ?_)
        have ks20 : KEf e sx s20 := by rw [hs20]; exact (KEf.I ksx (by omega) (by omega) (by omega) (by omega))
        exact ks20
    ·
      refine p_bd (Q := KEf e sx) (fun v25 hv25 => ?_)
      refine p_if (Q := KEf e sx) (fun _ => ?_) (fun _ => ?_)
      ·
        refine p_bd (Q := KEf e sx) (fun v31 hv31 => ?_)
        refine p_if (Q := KEf e sx) (fun _ => ?_) (fun _ => ?_)
        ·
          refine p_bd (Q := KEf e sx) (fun v37 hv37 => ?_)
          refine p_if (Q := KEf e sx) (fun _ => ?_) (fun _ => ?_)
          ·
            refine p_bd (Q := KEf e sx) (fun v43 hv43 => ?_)
            refine p_if (Q := KEf e sx) (fun _ => ?_) (fun _ => ?_)
            ·
              exact KEf.tr ksx (ih 13 l0 l1 l2 ((l4 + 1)) sx el0 (KEf.ref ksx))
            ·
              refine p_bd (Q := KEf e sx) (fun v51 hv51 => ?_)
              refine p_bd (Q := KEf e sx) (fun v55 hv55 => ?_)
              refine p_bd (Q := KEf e sx) (fun v57 hv57 => ?_)
              exact KEf.tr ksx (ih 13 l0 l1 v57 ((l4 + 1)) sx el0 (KEf.ref ksx))
          ·
            refine p_bd (Q := KEf e sx) (fun v63 hv63 => ?_)
            refine p_bd (Q := KEf e sx) (fun v65 hv65 => ?_)
            refine p_bd (Q := KEf e sx) (fun v67 hv67 => ?_)
            refine p_bd (Q := KEf e sx) (fun s69 hs69 => ?_)
            have ks69 : KEf e sx s69 := by rw [hs69]; exact (KEf.I ksx (by omega) (by omega) (by omega) (by omega))
            exact KEf.tr ks69 (ih 13 l0 l1 l2 ((l4 + 1)) s69 el0 (KEf.ref ks69))
        ·
          refine p_bd (Q := KEf e sx) (fun v75 hv75 => ?_)
          refine p_bd (Q := KEf e sx) (fun v79 hv79 => ?_)
          refine p_bd (Q := KEf e sx) (fun v81 hv81 => ?_)
          refine p_bd (Q := KEf e sx) (fun v85 hv85 => ?_)
          refine p_if (Q := KEf e sx) (fun _ => ?_) (fun _ => ?_)
          ·
            refine p_bd (Q := KEf e sx) (fun v91 hv91 => ?_)
            refine p_if (Q := KEf e sx) (fun _ => ?_) (fun _ => ?_)
            ·
              exact KEf.tr ksx (ih 13 l0 l1 v81 ((l4 + 1)) sx el0 (KEf.ref ksx))
            ·
              refine p_bd (Q := KEf e sx) (fun v99 hv99 => ?_)
              refine p_bd (Q := KEf e sx) (fun v103 hv103 => ?_)
              refine p_bd (Q := KEf e sx) (fun v105 hv105 => ?_)
              exact KEf.tr ksx (ih 13 l0 l1 v105 ((l4 + 1)) sx el0 (KEf.ref ksx))
          ·
            refine p_bd (Q := KEf e sx) (fun v111 hv111 => ?_)
            refine p_bd (Q := KEf e sx) (fun v113 hv113 => ?_)
            refine p_bd (Q := KEf e sx) (fun v115 hv115 => ?_)
            refine p_bd (Q := KEf e sx) (fun s117 hs117 => ?_)
            have ks117 : KEf e sx s117 := by rw [hs117]; exact (KEf.I ksx (by omega) (by omega) (by omega) (by omega))
            exact KEf.tr ks117 (ih 13 l0 l1 v81 ((l4 + 1)) s117 el0 (KEf.ref ks117))
      ·
        exact KEf.tr ksx (ih 13 l0 l1 l2 ((l4 + 1)) sx el0 (KEf.ref ksx))
theorem ke_X0_walk {e : Nat} (he : e = 2 ∨ e = 18) {s : ST} (hs : s.2.2 34 4 = e) {c1 : Nat} {a2 : Int} (ec1 : c1 = e) : KEf e s (f_X0_walk s c1 a2) := by
  unfold f_X0_walk
  have ks : KEf e s s := KEf.rfl hs
  refine p_bd (Q := KEf e s) (fun v126 hv126 => ?_)
  refine p_bd (Q := KEf e s) (fun v130 hv130 => ?_)
  exact KEf.tr ks (ke_X0_walk_ he 139 13 c1 a2 v130 0 s ec1 (KEf.ref ks))
theorem ke_X0_settleEnds_ {e : Nat} (he : e = 2 ∨ e = 18) : ∀ (n : Nat) (lab : Nat) (l0 : Nat) (l1 : Int) (l2 : Int) (l3 : Int) (l4 : Int) (l5 : Int) (sx : ST), l0 = e → sx.2.2 34 4 = e → KEf e sx (f_X0_settleEnds_ n lab l0 l1 l2 l3 l4 l5 sx) := by
  intro n
  induction n with
  | zero =>
    intro lab l0 l1 l2 l3 l4 l5 sx el0 hs
    rw [f_X0_settleEnds_]
    exact KEf.rfl hs
  | succ n ih =>
    intro lab l0 l1 l2 l3 l4 l5 sx el0 hs
    rw [f_X0_settleEnds_]
    have ksx : KEf e sx sx := KEf.rfl hs
    refine p_if (Q := KEf e sx) (fun _ => ?_) (fun _ => ?_)
    ·
      refine p_if (Q := KEf e sx) (fun _ => ?_) (fun _ => ?_)
      ·
        exact ksx
      ·
        refine p_if (Q := KEf e sx) (fun _ => ?_) (fun _ => ?_)
        ·
          exact ksx
        ·
          refine p_bd (Q := KEf e sx) (fun v7 hv7 => ?_)
          refine p_bd (Q := KEf e sx) (fun v9 hv9 => ?_)
          exact KEf.tr ksx (ih 28 l0 0 l2 v7 v9 0 sx el0 (KEf.ref ksx))
    ·
      refine p_bd (Q := KEf e sx) (fun v12 hv12 => ?_)
      refine p_if (Q := KEf e sx) (fun _ => ?_) (fun _ => ?_)
      ·
        refine p_bd (Q := KEf e sx) (fun v16 hv16 => ?_)
        refine p_if (Q := KEf e sx) (fun _ => ?_) (fun _ => ?_)
        ·
          exact KEf.tr ksx (ih 4 l0 1 ((l2 + 1)) 0 0 0 sx el0 (KEf.ref ksx))
        ·
          refine p_bd (Q := KEf e sx) (fun v25 hv25 => ?_)
          refine p_if (Q := KEf e sx) (fun _ => ?_) (fun _ => ?_)
          ·
            exact KEf.tr ksx (ih 4 l0 0 ((l2 + 1)) 0 0 0 sx el0 (KEf.ref ksx))
          ·
            exact KEf.tr ksx (ih 4 l0 1 ((l2 + 1)) 0 0 0 sx el0 (KEf.ref ksx))
      ·
        refine p_bd (Q := KEf e sx) (fun s39 hs39 => ?_)
        have ks39 : KEf e sx s39 := KEf.tr ksx (by rw [hs39]; exact ke_X0_walk he (KEf.ref ksx) el0)
        exact KEf.tr ks39 (ih 28 l0 0 l2 l3 l4 ((l5 + 1)) s39 el0 (KEf.ref ks39))
theorem ke_X0_settleEnds {e : Nat} (he : e = 2 ∨ e = 18) {s : ST} (hs : s.2.2 34 4 = e) {c1 : Nat} (ec1 : c1 = e) : KEf e s (f_X0_settleEnds s c1) := by
  unfold f_X0_settleEnds
  have ks : KEf e s s := KEf.rfl hs
  exact KEf.tr ks (ke_X0_settleEnds_ he 325 4 c1 1 0 0 0 0 s ec1 (KEf.ref ks))
theorem kd_X0_add {e : Nat} (he : e = 2 ∨ e = 18) {s : ST} (hs : s.2.2 34 4 = e) {c1 : Nat} {a2 : Int} {a3 : Int} {a4 : Int} {a5 : Int} (ec1 : c1 = e) : KDp e s (f_X0_add s c1 a2 a3 a4 a5) := by
  unfold f_X0_add
  have ks : KD e s s := KD.rfl hs
  refine p_bd (Q := KDp e s) (fun v4 hv4 => ?_)
  refine p_bd (Q := KDp e s) (fun v6 hv6 => ?_)
  refine p_bd (Q := KDp e s) (fun s10 hs10 => ?_)
  have ks10 : KD e s s10 := by rw [hs10]; exact (KD.I ks (by omega))
  refine p_bd (Q := KDp e s) (fun s12 hs12 => ?_)
  have ks12 : KD e s s12 := by rw [hs12]; exact (KD.I ks10 (by omega))
  refine p_bd (Q := KDp e s) (fun s14 hs14 => ?_)
  have ks14 : KD e s s14 := by rw [hs14]; exact (KD.I ks12 (by omega))
  refine p_bd (Q := KDp e s) (fun s16 hs16 => ?_)
  have ks16 : KD e s s16 := by rw [hs16]; exact (KD.I ks14 (by omega))
  refine p_bd (Q := KDp e s) (fun s18 hs18 => ?_)
  have ks18 : KD e s s18 := by rw [hs18]; exact (KD.I ks16 (by omega))
  refine p_bd (Q := KDp e s) (fun s20 hs20 => ?_)
  have ks20 : KD e s s20 := by rw [hs20]; exact (KD.I ks18 (by omega))
  refine p_bd (Q := KDp e s) (fun s22 hs22 => ?_)
  have ks22 : KD e s s22 := by rw [hs22]; exact (KD.I ks20 (by omega))
  refine p_bd (Q := KDp e s) (fun s24 hs24 => ?_)
  have ks24 : KD e s s24 := by rw [hs24]; exact (KD.I ks22 (by omega))
  refine p_bd (Q := KDp e s) (fun s26 hs26 => ?_)
  have ks26 : KD e s s26 := by rw [hs26]; exact (KD.I ks24 (by omega))
  refine p_bd (Q := KDp e s) (fun s28 hs28 => ?_)
  have ks28 : KD e s s28 := by rw [hs28]; exact (KD.I ks26 (by omega))
  exact ks28
theorem kd_X3_readCall {e : Nat} (he : e = 2 ∨ e = 18) {s : ST} (hs : s.2.2 34 4 = e) {a2 : Int} {a3 : Int} : KD e s (f_X3_readCall s a2 a3) := by
  unfold f_X3_readCall
  have ks : KD e s s := KD.rfl hs
  refine p_bd (Q := KD e s) (fun u34_2 hu34_2 => ?_)
  refine p_bd (Q := KD e s) (fun s7 hs7 => ?_)
  have ks7 : KD e s s7 := by rw [hs7]; exact (KD.I ks (by omega))
  refine p_bd (Q := KD e s) (fun c9 hc9 => ?_)
  have ec9 : c9 = e := by rw [hc9]; exact KD.ref ks7
  refine p_bd (Q := KD e s) (fun s13 hs13 => ?_)
  have ks13 : KD e s s13 := by rw [hs13]; exact (KD.I (KD.I ks7 (by omega)) (by omega))
  refine p_bd (Q := KD e s) (fun c15 hc15 => ?_)
  have ec15 : c15 = e := by rw [hc15]; exact KD.ref ks13
  refine p_bd (Q := KD e s) (fun v17 hv17 => ?_)
  refine p_bd (Q := KD e s) (fun v21 hv21 => ?_)
  refine p_bd (Q := KD e s) (fun v23 hv23 => ?_)
  refine p_bd (Q := KD e s) (fun s25 hs25 => ?_)
  have ks25 : KD e s s25 := by rw [hs25]; exact (KD.L ks13 (by omega))
  refine p_bd (Q := KD e s) (fun s36 hs36 => ?_)
  have js36 : KEf e s25 s36 := (by rw [hs36]; exact ke_X3_take he (KD.ref ks25))
  have ks36 : KD e s s36 := KD.tr ks25 js36.1
  refine p_bd (Q := KD e s) (fun c48 hc48 => ?_)
  have ec48 : c48 = e := by rw [hc48]; exact KD.ref ks36
  refine p_bd2 (Q := KD e s) (fun s59 v64 hs59 => ?_)
  have js59 : KEf e s36 s59 := (by have z : KEfp e s36 (f_X3_readOperand s36) := ke_X3_readOperand he (KD.ref ks36); rw [← hs59] at z; exact z)
  have ks59 : KD e s s59 := KD.tr ks36 js59.1
  refine p_bd (Q := KD e s) (fun s72 hs72 => ?_)
  have ks72 : KD e s s72 := by rw [hs72]; exact (KD.I ks59 (by omega))
  refine p_bd (Q := KD e s) (fun s83 hs83 => ?_)
  have js83 : KEf e s72 s83 := (by rw [hs83]; exact ke_X3_take he (KD.ref ks72))
  have ks83 : KD e s s83 := KD.tr ks72 js83.1
  refine p_bd (Q := KD e s) (fun c95 hc95 => ?_)
  have ec95 : c95 = e := by rw [hc95]; exact KD.ref ks83
  refine p_bd2 (Q := KD e s) (fun s106 v111 hs106 => ?_)
  have js106 : KEf e s83 s106 := (by have z : KEfp e s83 (f_X3_readOperand s83) := ke_X3_readOperand he (KD.ref ks83); rw [← hs106] at z; exact z)
  have ks106 : KD e s s106 := KD.tr ks83 js106.1
  refine p_bd (Q := KD e s) (fun s119 hs119 => ?_)
  have ks119 : KD e s s119 := by rw [hs119]; exact (KD.I ks106 (by omega))
  refine p_bd (Q := KD e s) (fun s130 hs130 => ?_)
  have js130 : KEf e s119 s130 := (by rw [hs130]; exact ke_X3_take he (KD.ref ks119))
  have ks130 : KD e s s130 := KD.tr ks119 js130.1
  exact ks130
theorem kd_X3_readAssignment {e : Nat} (he : e = 2 ∨ e = 18) {s : ST} (hs : s.2.2 34 4 = e) {a2 : Int} {a3 : Int} : KD e s (f_X3_readAssignment s a2 a3) := by
  unfold f_X3_readAssignment
  have ks : KD e s s := KD.rfl hs
  refine p_bd (Q := KD e s) (fun c4 hc4 => ?_)
  have ec4 : c4 = e := by rw [hc4]; exact KD.ref ks
  refine p_bd (Q := KD e s) (fun s6 hs6 => ?_)
  have ks6 : KD e s s6 := by rw [hs6]; exact (KD.I ks (by omega))
  refine p_bd (Q := KD e s) (fun s17 hs17 => ?_)
  have js17 : KEf e s6 s17 := (by rw [hs17]; exact ke_X3_take he (KD.ref ks6))
  have ks17 : KD e s s17 := KD.tr ks6 js17.1
  refine p_bd2 (Q := KD e s) (fun s38 v44 hs38 => ?_)
  have js38 : KEf e s17 s38 := (by have z : KEfp e s17 (f_X3_look s17) := ke_X3_look he (KD.ref ks17); rw [← hs38] at z; exact z)
  have ks38 : KD e s s38 := KD.tr ks17 js38.1
  refine p_if (Q := KD e s) (fun _ => ?_) (fun _ => ?_)
  ·
    refine p_bd (Q := KD e s) (fun s63 hs63 => ?_)
    have js63 : KEf e s38 s63 := (by rw [hs63]; exact ke_X3_readNumbers he (KD.ref ks38))
    have ks63 : KD e s s63 := KD.tr ks38 js63.1
    refine p_bd (Q := KD e s) (fun s84 hs84 => ?_)
    have js84 : KEf e s63 s84 := (by rw [hs84]; exact ke_X3_take he (KD.ref ks63))
    have ks84 : KD e s s84 := KD.tr ks63 js84.1
    exact ks84
  ·
    refine p_if (Q := KD e s) (fun _ => ?_) (fun _ => ?_)
    ·
      refine p_bd (Q := KD e s) (fun s117 hs117 => ?_)
      have js117 : KEf e s38 s117 := (by rw [hs117]; exact ke_X3_readNumbers he (KD.ref ks38))
      have ks117 : KD e s s117 := KD.tr ks38 js117.1
      refine p_bd (Q := KD e s) (fun s138 hs138 => ?_)
      have js138 : KEf e s117 s138 := (by rw [hs138]; exact ke_X3_take he (KD.ref ks117))
      have ks138 : KD e s s138 := KD.tr ks117 js138.1
      exact ks138
    ·
      refine p_bd (Q := KD e s) (fun v163 hv163 => ?_)
      refine p_if (Q := KD e s) (fun _ => ?_) (fun _ => ?_)
      ·
        refine p_bd (Q := KD e s) (fun s177 hs177 => ?_)
        have js177 : KEf e s38 s177 := (by rw [hs177]; exact ke_X3_readNumbers he (KD.ref ks38))
        have ks177 : KD e s s177 := KD.tr ks38 js177.1
        refine p_bd (Q := KD e s) (fun s198 hs198 => ?_)
        have js198 : KEf e s177 s198 := (by rw [hs198]; exact ke_X3_take he (KD.ref ks177))
        have ks198 : KD e s s198 := KD.tr ks177 js198.1
        exact ks198
      ·
        refine p_bd (Q := KD e s) (fun s229 hs229 => ?_)
        have ks229 : KD e s s229 := KD.tr ks38 (by rw [hs229]; exact kd_X3_readCall he (KD.ref ks38))
        refine p_bd (Q := KD e s) (fun s255 hs255 => ?_)
        have js255 : KEf e s229 s255 := (by rw [hs255]; exact ke_X3_take he (KD.ref ks229))
        have ks255 : KD e s s255 := KD.tr ks229 js255.1
        exact ks255
theorem kd_X3_readStatement {e : Nat} (he : e = 2 ∨ e = 18) {s : ST} (hs : s.2.2 34 4 = e) {a2 : Int} : KD e s (f_X3_readStatement s a2) := by
  unfold f_X3_readStatement
  have ks : KD e s s := KD.rfl hs
  refine p_bd (Q := KD e s) (fun u34_2 hu34_2 => ?_)
  refine p_bd (Q := KD e s) (fun u34_7 hu34_7 => ?_)
  refine p_bd (Q := KD e s) (fun v7 hv7 => ?_)
  refine p_if (Q := KD e s) (fun _ => ?_) (fun _ => ?_)
  ·
    refine p_bd (Q := KD e s) (fun c11 hc11 => ?_)
    have ec11 : c11 = e := by rw [hc11]; exact KD.ref ks
    refine p_bd (Q := KD e s) (fun v13 hv13 => ?_)
    refine p_if (Q := KD e s) (fun _ => ?_) (fun _ => ?_)
    ·
      refine p_bd (Q := KD e s) (fun c17 hc17 => ?_)
      have ec17 : c17 = e := by rw [hc17]; exact KD.ref ks
      refine p_bd (Q := KD e s) (fun c19 hc19 => ?_)
      have ec19 : c19 = e := by rw [hc19]; exact KD.ref ks
      refine p_bd (Q := KD e s) (fun v21 hv21 => ?_)
      refine p_bd2 (Q := KD e s) (fun s35 v46 hs35 => ?_)
      have ks35 : KD e s s35 := KD.tr ks (by have z : KDp e s (f_X0_add s c17 v7 ((v21 - 1)) ((u34_7 - 1)) u34_2) := kd_X0_add he (KD.ref ks) ec17; rw [← hs35] at z; exact z)
      refine p_bd2 (Q := KD e s) (fun s58 v64 hs58 => ?_)
      have js58 : KEf e s35 s58 := (by have z : KEfp e s35 (f_X3_addItem s35 v46) := ke_X3_addItem he (KD.ref ks35); rw [← hs58] at z; exact z)
      have ks58 : KD e s s58 := KD.tr ks35 js58.1
      refine p_bd (Q := KD e s) (fun u66 hu66 => ?_)
      refine p_bd (Q := KD e s) (fun s73 hs73 => ?_)
      have ks73 : KD e s s73 := by rw [hs73]; exact (KD.I ks58 (by omega))
      refine p_if (Q := KD e s) (fun _ => ?_) (fun _ => ?_)
      ·
        refine p_if (Q := KD e s) (fun _ => ?_) (fun _ => ?_)
        ·
          refine p_bd (Q := KD e s) (fun s85 hs85 => ?_)
          have js85 : KEf e s73 s85 := (by rw [hs85]; exact ke_X3_readCondition he (KD.ref ks73))
          have ks85 : KD e s s85 := KD.tr ks73 js85.1
          exact ks85
        ·
          refine p_if (Q := KD e s) (fun _ => ?_) (fun _ => ?_)
          ·
            refine p_bd (Q := KD e s) (fun c96 hc96 => ?_)
            have ec96 : c96 = e := by rw [hc96]; exact KD.ref ks73
            refine p_bd2 (Q := KD e s) (fun s104 v109 hs104 => ?_)
            have js104 : KEf e s73 s104 := (by have z : KEfp e s73 (f_X3_readOperand s73) := ke_X3_readOperand he (KD.ref ks73); rw [← hs104] at z; exact z)
            have ks104 : KD e s s104 := KD.tr ks73 js104.1
            refine p_bd (Q := KD e s) (fun s115 hs115 => ?_)
            have ks115 : KD e s s115 := by rw [hs115]; exact (KD.I ks104 (by omega))
            refine p_bd (Q := KD e s) (fun s123 hs123 => ?_)
            have js123 : KEf e s115 s123 := (by rw [hs123]; exact ke_X3_take he (KD.ref ks115))
            have ks123 : KD e s s123 := KD.tr ks115 js123.1
            exact ks123
          ·
            refine p_bd (Q := KD e s) (fun s140 hs140 => ?_)
            have js140 : KEf e s73 s140 := (by rw [hs140]; exact ke_X3_readCondition he (KD.ref ks73))
            have ks140 : KD e s s140 := KD.tr ks73 js140.1
            exact ks140
      ·
        refine p_bd (Q := KD e s) (fun v152 hv152 => ?_)
        refine p_bd (Q := KD e s) (fun s160 hs160 => ?_)
        have ks160 : KD e s s160 := KD.tr ks73 (by rw [hs160]; exact kd_X3_readAssignment he (KD.ref ks73))
        exact ks160
    ·
      refine p_bd (Q := KD e s) (fun s183 hs183 => ?_)
      have js183 : KEf e s s183 := (by rw [hs183]; exact ke_X3_blame he (KD.ref ks))
      have ks183 : KD e s s183 := KD.tr ks js183.1
      exact ks183
  ·
    refine p_bd (Q := KD e s) (fun s203 hs203 => ?_)
    have js203 : KEf e s s203 := (by rw [hs203]; exact ke_X3_blame he (KD.ref ks))
    have ks203 : KD e s s203 := KD.tr ks js203.1
    exact ks203
theorem ke_X6_wire_ {e : Nat} (he : e = 2 ∨ e = 18) : ∀ (n lab : Nat) (l2 : Int) (sx : ST), sx.2.2 34 4 = e → sx.2.2 48 1 = e → KEf e sx (f_X6_wire_ n lab l2 sx) := by
  intro n
  induction n with
  | zero =>
    intro lab l2 sx hs _
    rw [f_X6_wire_]
    exact KEf.rfl hs
  | succ n ih =>
    intro lab l2 sx hs hw
    rw [f_X6_wire_]
    have ksx : KEf e sx sx := KEf.rfl hs
    refine p_bd (Q := KEf e sx) (fun c1 h1 => ?_)
    refine p_bd (Q := KEf e sx) (fun v3 h3 => ?_)
    refine p_if (Q := KEf e sx) (fun _ => ksx) (fun _ => ?_)
    refine p_bd (Q := KEf e sx) (fun v8 h8 => ?_)
    refine p_bd (Q := KEf e sx) (fun c10 h10 => ?_)
    have ec10 : c10 = e := h10.trans hw
    refine p_bd2 (Q := KEf e sx) (fun s14 v17 h14 => ?_)
    have w14 : WL e sx s14 := by
      have z := WL.all he 7 sx v8 (40 + l2) (-1) hw
      rw [← wb_0 sx v8 (40 + l2) (-1) 0, ← h14] at z
      exact z
    have k14 : KEf e sx s14 := KEf.wl he ksx w14
    refine p_bd (Q := KEf e sx) (fun s19 h19 => ?_)
    have k19 : KEf e sx s19 := by rw [h19]; exact KEf.I k14 (by omega) (by omega) (by omega) (by omega)
    have r19 : s19.2.2 48 1 = e := by
      rw [h19]
      show s14.2.2 48 1 = e
      rw [w14.1]
      exact hw
    exact KEf.tr k19 (ih _ _ s19 (KEf.ref k19) r19)
theorem ke_X6_wire {e : Nat} (he : e = 2 ∨ e = 18) {s : ST} (hs : s.2.2 34 4 = e) {c2 : Nat} (ec2 : c2 = e) : KEf e s (f_X6_wire s c2) := by
  unfold f_X6_wire
  have ks : KEf e s s := KEf.rfl hs
  refine p_bd (Q := KEf e s) (fun s24 h24 => ?_)
  have k24 : KEf e s s24 := by rw [h24]; exact KEf.R ks (by omega) (by omega)
  refine KEf.tr k24 (ke_X6_wire_ he 34 7 0 s24 (KEf.ref k24) ?_)
  rw [h24]
  show (if 48 = 48 ∧ 1 = 1 then c2 else s.2.2 48 1) = e
  rw [if_pos ⟨rfl, rfl⟩]
  exact ec2
theorem ke_X3_finish {e : Nat} (he : e = 2 ∨ e = 18) {s : ST} (hs : s.2.2 34 4 = e) : KEf e s (f_X3_finish s) := by
  unfold f_X3_finish
  have ks : KEf e s s := KEf.rfl hs
  refine p_bd (Q := KEf e s) (fun v1 hv1 => ?_)
  refine p_if (Q := KEf e s) (fun _ => ?_) (fun _ => ?_)
  ·
    refine p_bd (Q := KEf e s) (fun c5 hc5 => ?_)
    have ec5 : c5 = e := by rw [hc5]; exact KEf.ref ks
    refine p_bd (Q := KEf e s) (fun v9 hv9 => ?_)
    refine p_if (Q := KEf e s) (fun _ => ?_) (fun _ => ?_)
    ·
      refine p_bd (Q := KEf e s) (fun c13 hc13 => ?_)
      have ec13 : c13 = e := by rw [hc13]; exact KEf.ref ks
      refine p_bd (Q := KEf e s) (fun s15 hs15 => ?_)
      have ks15 : KEf e s s15 := KEf.tr ks (by rw [hs15]; exact ke_X6_wire he (KEf.ref ks) ec13)
      refine p_bd (Q := KEf e s) (fun c19 hc19 => ?_)
      have ec19 : c19 = e := by rw [hc19]; exact KEf.ref ks15
      refine p_bd (Q := KEf e s) (fun s21 hs21 => ?_)
      have ks21 : KEf e s s21 := KEf.tr ks15 (by rw [hs21]; exact ke_X0_settleEnds he (KEf.ref ks15) ec19)
      refine p_bd (Q := KEf e s) (fun c25 hc25 => ?_)
      have ec25 : c25 = e := by rw [hc25]; exact KEf.ref ks21
      refine p_bd (Q := KEf e s) (fun v29 hv29 => ?_)
      refine p_if (Q := KEf e s) (fun _ => ?_) (fun _ => ?_)
      ·
        exact ks21
      ·
        refine p_bd (Q := KEf e s) (fun v34 hv34 => ?_)
        refine p_bd (Q := KEf e s) (fun s36 hs36 => ?_)
        have ks36 : KEf e s s36 := KEf.tr ks21 (by rw [hs36]; exact ke_X3_blame he (KEf.ref ks21))
        exact ks36
    ·
      refine p_bd (Q := KEf e s) (fun v45 hv45 => ?_)
      refine p_bd (Q := KEf e s) (fun s47 hs47 => ?_)
      have ks47 : KEf e s s47 := KEf.tr ks (by rw [hs47]; exact ke_X3_blame he (KEf.ref ks))
      exact ks47
  ·
    exact ks
theorem kd_X0_clear {e : Nat} (he : e = 2 ∨ e = 18) {s : ST} (hs : s.2.2 34 4 = e) {c1 : Nat} (ec1 : c1 = e) : KD e s (f_X0_clear s c1) := by
  unfold f_X0_clear
  have ks : KD e s s := KD.rfl hs
  refine p_bd (Q := KD e s) (fun s4 hs4 => ?_)
  have ks4 : KD e s s4 := by rw [hs4]; exact (KD.I ks (by omega))
  refine p_bd (Q := KD e s) (fun s6 hs6 => ?_)
  have ks6 : KD e s s6 := by rw [hs6]; exact (KD.I ks4 (by omega))
  refine p_bd (Q := KD e s) (fun s8 hs8 => ?_)
  have ks8 : KD e s s8 := by rw [hs8]; exact (KD.L ks6 (by omega))
  refine p_bd (Q := KD e s) (fun s10 hs10 => ?_)
  have ks10 : KD e s s10 := by rw [hs10]; exact (KD.I ks8 (by omega))
  refine p_bd (Q := KD e s) (fun s12 hs12 => ?_)
  have ks12 : KD e s s12 := by rw [hs12]; exact (KD.I ks10 (by omega))
  exact ks12
theorem kd_X3_start {e : Nat} (he : e = 2 ∨ e = 18) {s : ST} {a3 : Int} {c4 : Nat} (ec4 : c4 = e) : KD e s (f_X3_start s a3 c4) := by
  unfold f_X3_start
  refine p_bd (Q := KD e s) (fun s1 h1 => ?_)
  refine p_bd (Q := KD e s) (fun v3 h3 => ?_)
  refine p_bd (Q := KD e s) (fun s7 h7 => ?_)
  refine p_bd (Q := KD e s) (fun s9 h9 => ?_)
  refine p_bd (Q := KD e s) (fun s11 h11 => ?_)
  refine p_bd (Q := KD e s) (fun s13 h13 => ?_)
  have k13 : KD e s s13 := by
    rw [h13, h11, h9, h7, h1]
    refine ⟨?_, ?_, fun p p1 p2 _ => ⟨?_, rfl⟩⟩
    · show (if 34 = 34 ∧ 4 = 4 then c4 else if 34 = 34 ∧ 4 = 0 then 1 else s.2.2 34 4) = e
      rw [if_pos ⟨rfl, rfl⟩]
      exact ec4
    · funext q
      show (if 0 = 34 ∧ q = 4 then c4 else if 0 = 34 ∧ q = 0 then 1 else s.2.2 0 q) = s.2.2 0 q
      rw [if_neg (by omega), if_neg (by omega)]
    · show (sI (sI (sI (sR s 34 0 1) 34 1 v3) 34 2 0) 34 3 0).1 p = s.1 p
      rw [sI_nc (by omega), sI_nc (by omega), sI_nc (by omega)]
      rfl
  refine p_bd (Q := KD e s) (fun c15 h15 => ?_)
  have ec15 : c15 = e := by rw [h15]; exact KD.ref k13
  refine p_bd (Q := KD e s) (fun s17 h17 => ?_)
  have k17 : KD e s s17 := KD.tr k13 (by rw [h17]; exact kd_X0_clear he (KD.ref k13) ec15)
  refine p_bd (Q := KD e s) (fun s24 h24 => ?_)
  have k24 : KD e s s24 := by rw [h24]; exact KD.I k17 (by omega)
  refine p_bd (Q := KD e s) (fun s26 h26 => ?_)
  rw [h26]
  exact KD.I k24 (by omega)
theorem kd_X3_read_ {e : Nat} (he : e = 2 ∨ e = 18) : ∀ (n : Nat) (lab_ : Nat) (l4 : Int) (sx : ST), sx.2.2 34 4 = e → KDp e sx (f_X3_read_ n lab_ l4 sx) := by
  intro n
  induction n with
  | zero =>
    intro lab_ l4 sx  hs
    rw [f_X3_read_]
    exact KD.rfl hs
  | succ n ih =>
    intro lab_ l4 sx  hs
    rw [f_X3_read_]
    have ksx : KD e sx sx := KD.rfl hs
    refine p_if (Q := KDp e sx) (fun _ => ?_) (fun _ => ?_)
    ·
      refine p_bd (Q := KDp e sx) (fun s9 hs9 => ?_)
      have js9 : KEf e sx s9 := (by rw [hs9]; exact ke_X3_finish he (KD.ref ksx))
      have ks9 : KD e sx s9 := KD.tr ksx js9.1
      refine p_bd (Q := KDp e sx) (fun u15 hu15 => ?_)
      exact ks9
    ·
      refine p_bd (Q := KDp e sx) (fun v21 hv21 => ?_)
      refine p_if (Q := KDp e sx) (fun _ => ?_) (fun _ => ?_)
      ·
        refine p_bd (Q := KDp e sx) (fun s33 hs33 => ?_)
        have js33 : KEf e sx s33 := (by rw [hs33]; exact ke_X3_finish he (KD.ref ksx))
        have ks33 : KD e sx s33 := KD.tr ksx js33.1
        refine p_bd (Q := KDp e sx) (fun u39 hu39 => ?_)
        exact ks33
      ·
        refine p_bd2 (Q := KDp e sx) (fun s52 v58 hs52 => ?_)
        have js52 : KEf e sx s52 := (by have z : KEfp e sx (f_X3_look sx) := ke_X3_look he (KD.ref ksx); rw [← hs52] at z; exact z)
        have ks52 : KD e sx s52 := KD.tr ksx js52.1
        refine p_bd (Q := KDp e sx) (fun u64 hu64 => ?_)
        refine p_if (Q := KDp e sx) (fun _ => ?_) (fun _ => ?_)
        ·
          refine p_if (Q := KDp e sx) (fun _ => ?_) (fun _ => ?_)
          ·
            refine p_if (Q := KDp e sx) (fun _ => ?_) (fun _ => ?_)
            ·
              refine p_bd (Q := KDp e sx) (fun s84 hs84 => ?_)
              have ks84 : KD e sx s84 := KD.tr ks52 (by rw [hs84]; exact kd_X3_readStatement he (KD.ref ks52))
              exact KD.trp ks84 (ih 14 ((l4 + 1)) s84 (KD.ref ks84))
            ·
              refine p_bd (Q := KDp e sx) (fun s121 hs121 => ?_)
              have js121 : KEf e s52 s121 := (by rw [hs121]; exact ke_X3_readTry he (KD.ref ks52))
              have ks121 : KD e sx s121 := KD.tr ks52 js121.1
              exact KD.trp ks121 (ih 14 ((l4 + 1)) s121 (KD.ref ks121))
          ·
            refine p_bd (Q := KDp e sx) (fun s153 hs153 => ?_)
            have js153 : KEf e s52 s153 := (by rw [hs153]; exact ke_X3_closeBlock he (KD.ref ks52))
            have ks153 : KD e sx s153 := KD.tr ks52 js153.1
            exact KD.trp ks153 (ih 14 ((l4 + 1)) s153 (KD.ref ks153))
        ·
          refine p_if (Q := KDp e sx) (fun _ => ?_) (fun _ => ?_)
          ·
            refine p_bd (Q := KDp e sx) (fun s189 hs189 => ?_)
            have js189 : KEf e s52 s189 := (by rw [hs189]; exact ke_X3_readProcedure he (KD.ref ks52))
            have ks189 : KD e sx s189 := KD.tr ks52 js189.1
            exact KD.trp ks189 (ih 14 ((l4 + 1)) s189 (KD.ref ks189))
          ·
            refine p_bd (Q := KDp e sx) (fun s222 hs222 => ?_)
            have js222 : KEf e s52 s222 := (by rw [hs222]; exact ke_X3_finish he (KD.ref ks52))
            have ks222 : KD e sx s222 := KD.tr ks52 js222.1
            refine p_bd (Q := KDp e sx) (fun u228 hu228 => ?_)
            exact ks222
theorem kd_X3_read {e : Nat} (he : e = 2 ∨ e = 18) {s : ST} {a3 : Int} {c4 : Nat} (ec4 : c4 = e) : KDp e s (f_X3_read s a3 c4) := by
  unfold f_X3_read
  refine p_bd (Q := KDp e s) (fun s239 h => ?_)
  have k239 : KD e s s239 := by rw [h]; exact kd_X3_start he ec4
  refine p_bd (Q := KDp e s) (fun s258 h2 => ?_)
  have k258 : KD e s s258 := KD.tr k239 (by rw [h2]; exact (ke_X3_readProcedure he (KD.ref k239)).1)
  exact KD.trp k258 (kd_X3_read_ he 1522 14 0 s258 (KD.ref k258))

