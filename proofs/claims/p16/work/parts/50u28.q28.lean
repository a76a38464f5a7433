/-! what the class's reading leaves of the tables -/
def KG (e : Nat) (s s' : ST) : Prop := s'.2.2 34 4 = e ∧ s'.2.2 0 = s.2.2 0 ∧ ∀ p, 49 ≤ p → s'.1 p = s.1 p ∧ s'.2.1 p = s.2.1 p ∧ s'.2.2 p = s.2.2 p
def KGp (e : Nat) (s : ST) (z : ST × Int) : Prop := KG e s z.1
theorem KG.rfl {e : Nat} {s : ST} (h : s.2.2 34 4 = e) : KG e s s := ⟨h, _root_.rfl, fun _ _ => ⟨_root_.rfl, _root_.rfl, _root_.rfl⟩⟩
theorem KG.ref {e : Nat} {s u : ST} (a : KG e s u) : u.2.2 34 4 = e := a.1
theorem KG.tr {e : Nat} {s u w : ST} (a : KG e s u) (b : KG e u w) : KG e s w := ⟨b.1, b.2.1.trans a.2.1, fun p h => ⟨(b.2.2 p h).1.trans (a.2.2 p h).1, (b.2.2 p h).2.1.trans (a.2.2 p h).2.1, (b.2.2 p h).2.2.trans (a.2.2 p h).2.2⟩⟩
theorem KG.trp {e : Nat} {s u : ST} {w : ST × Int} (a : KG e s u) (b : KGp e u w) : KGp e s w := KG.tr a b
theorem KG.I {e p j : Nat} {s u : ST} {x : Int} (a : KG e s u) (h : p ≤ 48) : KG e s (sI u p j x) := ⟨a.1, a.2.1, fun q hq => ⟨(sI_nc (by omega)).trans (a.2.2 q hq).1, (a.2.2 q hq).2⟩⟩
theorem KG.L {e p j : Nat} {s u : ST} {x : Int64} (a : KG e s u) (h : p ≤ 48) : KG e s (sL u p j x) := ⟨a.1, a.2.1, fun q hq => ⟨(a.2.2 q hq).1, (sL_nc (by omega)).trans (a.2.2 q hq).2.1, (a.2.2 q hq).2.2⟩⟩
theorem KG.R {e p j x : Nat} {s u : ST} (a : KG e s u) (h : ¬ (p = 34 ∧ j = 4)) (n : p ≠ 0) (m : p ≤ 48) : KG e s (sR u p j x) := ⟨(show (if 34 = p ∧ 4 = j then x else u.2.2 34 4) = e by rw [if_neg (by omega)]; exact a.1), (funext fun q => (show (if 0 = p ∧ q = j then x else u.2.2 0 q) = u.2.2 0 q from if_neg (fun z => n z.1.symm))).trans a.2.1, fun q hq => ⟨(a.2.2 q hq).1, (a.2.2 q hq).2.1, (funext fun i => (show (if q = p ∧ i = j then x else u.2.2 q i) = u.2.2 q i from if_neg (by omega))).trans (a.2.2 q hq).2.2⟩⟩
theorem KG.wl {e : Nat} {s u w : ST} (he : e = 2 ∨ e = 18) (a : KG e s u) (b : WL e u w) : KG e s w := ⟨by rw [b.1]; exact a.1, by rw [b.1]; exact a.2.1, fun p hp => ⟨(b.2 p (by omega) (by omega) (by omega) (by omega) (by omega) (by omega) (by omega)).trans (a.2.2 p hp).1, by rw [b.1]; exact (a.2.2 p hp).2⟩⟩

theorem kg_X3_blame {e : Nat} (he : e = 2 ∨ e = 18) {s : ST} (hs : s.2.2 34 4 = e) {a2 : Int} {a3 : Int} : KG e s (f_X3_blame s a2 a3) := by
  unfold f_X3_blame
  have ks : KG e s s := KG.rfl hs
  refine p_bd (Q := KG e s) (fun v4 hv4 => ?_)
  refine p_if (Q := KG e s) (fun _ => ?_) (fun _ => ?_)
  ·
    exact ks
  ·
    refine p_bd (Q := KG e s) (fun s26 hs26 => ?_)
    have ks26 : KG e s s26 := by rw [hs26]; exact (KG.I ks (by omega))
    exact ks26
theorem kg_X3_look_ {e : Nat} (he : e = 2 ∨ e = 18) : ∀ (n : Nat) (lab_ : Nat) (sx : ST), sx.2.2 34 4 = e → KGp e sx (f_X3_look_ n lab_ sx) := by
  intro n
  induction n with
  | zero =>
    intro lab_ sx  hs
    rw [f_X3_look_]
    exact KG.rfl hs
  | succ n ih =>
    intro lab_ sx  hs
    rw [f_X3_look_]
    have ksx : KG e sx sx := KG.rfl hs
    refine p_bd (Q := KGp e sx) (fun u34_1 hu34_1 => ?_)
    refine p_bd (Q := KGp e sx) (fun u34_7 hu34_7 => ?_)
    refine p_bd (Q := KGp e sx) (fun v3 hv3 => ?_)
    refine p_if (Q := KGp e sx) (fun _ => ?_) (fun _ => ?_)
    ·
      refine p_if (Q := KGp e sx) (fun _ => ?_) (fun _ => ?_)
      ·
        exact ksx
      ·
        refine p_bd (Q := KGp e sx) (fun v33 hv33 => ?_)
        refine p_bd (Q := KGp e sx) (fun v35 hv35 => ?_)
        exact ksx
    ·
      refine p_bd (Q := KGp e sx) (fun v57 hv57 => ?_)
      refine p_if (Q := KGp e sx) (fun _ => ?_) (fun _ => ?_)
      ·
        refine p_bd (Q := KGp e sx) (fun s64 hs64 => ?_)
        have ks64 : KG e sx s64 := by rw [hs64]; exact (KG.I ksx (by omega))
        exact KG.trp ks64 (ih 0 s64 (KG.ref ks64))
      ·
        refine p_bd (Q := KGp e sx) (fun v86 hv86 => ?_)
        refine p_if (Q := KGp e sx) (fun _ => ?_) (fun _ => ?_)
        ·
          refine p_if (Q := KGp e sx) (fun _ => ?_) (fun _ => ?_)
          ·
            exact ksx
          ·
            refine p_bd (Q := KGp e sx) (fun v114 hv114 => ?_)
            refine p_bd (Q := KGp e sx) (fun v116 hv116 => ?_)
            exact ksx
        ·
          refine p_bd (Q := KGp e sx) (fun s131 hs131 => ?_)
          have ks131 : KG e sx s131 := by rw [hs131]; exact (KG.I ksx (by omega))
          exact KG.trp ks131 (ih 0 s131 (KG.ref ks131))
theorem kg_X3_look {e : Nat} (he : e = 2 ∨ e = 18) {s : ST} (hs : s.2.2 34 4 = e) : KGp e s (f_X3_look s) := by
  unfold f_X3_look
  have ks : KG e s s := KG.rfl hs
  refine p_bd (Q := KGp e s) (fun u34_1 hu34_1 => ?_)
  refine p_bd (Q := KGp e s) (fun u34_7 hu34_7 => ?_)
  exact KG.trp ks (kg_X3_look_ he 1519 0 s (KG.ref ks))
theorem kg_X3_take {e : Nat} (he : e = 2 ∨ e = 18) {s : ST} (hs : s.2.2 34 4 = e) {a2 : Int} : KG e s (f_X3_take s a2) := by
  unfold f_X3_take
  have ks : KG e s s := KG.rfl hs
  refine p_bd2 (Q := KG e s) (fun s11 v17 hs11 => ?_)
  have ks11 : KG e s s11 := KG.tr ks (by have z : KGp e s (f_X3_look s) := kg_X3_look he (KG.ref ks); rw [← hs11] at z; exact z)
  refine p_bd (Q := KG e s) (fun u21 hu21 => ?_)
  refine p_if (Q := KG e s) (fun _ => ?_) (fun _ => ?_)
  ·
    refine p_bd (Q := KG e s) (fun s37 hs37 => ?_)
    have ks37 : KG e s s37 := KG.tr ks11 (by rw [hs37]; exact kg_X3_blame he (KG.ref ks11))
    exact ks37
  ·
    refine p_bd (Q := KG e s) (fun s64 hs64 => ?_)
    have ks64 : KG e s s64 := by rw [hs64]; exact (KG.I ks11 (by omega))
    exact ks64
theorem kg_X3_readNumber_ {e : Nat} (he : e = 2 ∨ e = 18) : ∀ (n : Nat) (lab_ : Nat) (l1 : Int) (l2 : Int) (sx : ST), sx.2.2 34 4 = e → KGp e sx (f_X3_readNumber_ n lab_ l1 l2 sx) := by
  intro n
  induction n with
  | zero =>
    intro lab_ l1 l2 sx  hs
    rw [f_X3_readNumber_]
    exact KG.rfl hs
  | succ n ih =>
    intro lab_ l1 l2 sx  hs
    rw [f_X3_readNumber_]
    have ksx : KG e sx sx := KG.rfl hs
    refine p_bd (Q := KGp e sx) (fun u34_1 hu34_1 => ?_)
    refine p_bd (Q := KGp e sx) (fun u34_7 hu34_7 => ?_)
    refine p_bd (Q := KGp e sx) (fun v3 hv3 => ?_)
    refine p_if (Q := KGp e sx) (fun _ => ?_) (fun _ => ?_)
    ·
      refine p_if (Q := KGp e sx) (fun _ => ?_) (fun _ => ?_)
      ·
        exact ksx
      ·
        refine p_bd (Q := KGp e sx) (fun s33 hs33 => ?_)
        have ks33 : KG e sx s33 := KG.tr ksx (by rw [hs33]; exact kg_X3_blame he (KG.ref ksx))
        exact ks33
    ·
      refine p_bd (Q := KGp e sx) (fun v67 hv67 => ?_)
      refine p_bd (Q := KGp e sx) (fun v71 hv71 => ?_)
      refine p_if (Q := KGp e sx) (fun _ => ?_) (fun _ => ?_)
      ·
        refine p_if (Q := KGp e sx) (fun _ => ?_) (fun _ => ?_)
        ·
          exact ksx
        ·
          refine p_bd (Q := KGp e sx) (fun s99 hs99 => ?_)
          have ks99 : KG e sx s99 := KG.tr ksx (by rw [hs99]; exact kg_X3_blame he (KG.ref ksx))
          exact ks99
      ·
        refine p_if (Q := KGp e sx) (fun _ => ?_) (fun _ => ?_)
        ·
          refine p_bd (Q := KGp e sx) (fun s131 hs131 => ?_)
          have ks131 : KG e sx s131 := by rw [hs131]; exact (KG.I ksx (by omega))
          exact KG.trp ks131 (ih 7 l1 l2 s131 (KG.ref ks131))
        ·
          refine p_bd (Q := KGp e sx) (fun v143 hv143 => ?_)
          refine p_bd (Q := KGp e sx) (fun v155 hv155 => ?_)
          refine p_bd (Q := KGp e sx) (fun v157 hv157 => ?_)
          refine p_bd (Q := KGp e sx) (fun v159 hv159 => ?_)
          refine p_bd (Q := KGp e sx) (fun s164 hs164 => ?_)
          have ks164 : KG e sx s164 := by rw [hs164]; exact (KG.I ksx (by omega))
          exact KG.trp ks164 (ih 7 l1 v159 s164 (KG.ref ks164))
theorem kg_X3_readNumber {e : Nat} (he : e = 2 ∨ e = 18) {s : ST} (hs : s.2.2 34 4 = e) : KGp e s (f_X3_readNumber s) := by
  unfold f_X3_readNumber
  have ks : KG e s s := KG.rfl hs
  refine p_bd (Q := KGp e s) (fun u34_1 hu34_1 => ?_)
  refine p_bd (Q := KGp e s) (fun u34_7 hu34_7 => ?_)
  refine p_bd (Q := KGp e s) (fun v177 hv177 => ?_)
  exact KG.trp ks (kg_X3_readNumber_ he 1519 7 v177 0 s (KG.ref ks))
theorem kg_X3_readOperand {e : Nat} (he : e = 2 ∨ e = 18) {s : ST} (hs : s.2.2 34 4 = e) : KGp e s (f_X3_readOperand s) := by
  unfold f_X3_readOperand
  have ks : KG e s s := KG.rfl hs
  refine p_bd2 (Q := KGp e s) (fun s11 v17 hs11 => ?_)
  have ks11 : KG e s s11 := KG.tr ks (by have z : KGp e s (f_X3_look s) := kg_X3_look he (KG.ref ks); rw [← hs11] at z; exact z)
  refine p_bd (Q := KGp e s) (fun u21 hu21 => ?_)
  refine p_bd (Q := KGp e s) (fun v27 hv27 => ?_)
  refine p_if (Q := KGp e s) (fun _ => ?_) (fun _ => ?_)
  ·
    refine p_bd (Q := KGp e s) (fun v34 hv34 => ?_)
    refine p_if (Q := KGp e s) (fun _ => ?_) (fun _ => ?_)
    ·
      refine p_bd (Q := KGp e s) (fun s41 hs41 => ?_)
      have ks41 : KG e s s41 := by rw [hs41]; exact (KG.I ks11 (by omega))
      exact ks41
    ·
      refine p_bd (Q := KGp e s) (fun s63 hs63 => ?_)
      have ks63 : KG e s s63 := KG.tr ks11 (by rw [hs63]; exact kg_X3_blame he (KG.ref ks11))
      exact ks63
  ·
    refine p_bd2 (Q := KGp e s) (fun s96 v101 hs96 => ?_)
    have ks96 : KG e s s96 := KG.tr ks11 (by have z : KGp e s11 (f_X3_readNumber s11) := kg_X3_readNumber he (KG.ref ks11); rw [← hs96] at z; exact z)
    refine p_bd (Q := KGp e s) (fun v109 hv109 => ?_)
    exact ks96
theorem kg_X5_add {e : Nat} (he : e = 2 ∨ e = 18) {s : ST} (hs : s.2.2 34 4 = e) {a2 : Int} : KGp e s (f_X5_add s a2) := by
  unfold f_X5_add
  have ks : KG e s s := KG.rfl hs
  refine p_bd (Q := KGp e s) (fun v4 hv4 => ?_)
  refine p_if (Q := KGp e s) (fun _ => ?_) (fun _ => ?_)
  ·
    refine p_bd (Q := KGp e s) (fun s12 hs12 => ?_)
    have ks12 : KG e s s12 := by rw [hs12]; exact (KG.I ks (by omega))
    refine p_bd (Q := KGp e s) (fun s14 hs14 => ?_)
    have ks14 : KG e s s14 := by rw [hs14]; exact (KG.I ks12 (by omega))
    refine p_bd (Q := KGp e s) (fun s16 hs16 => ?_)
    have ks16 : KG e s s16 := by rw [hs16]; exact (KG.I ks14 (by omega))
    refine p_bd (Q := KGp e s) (fun s18 hs18 => ?_)
    have ks18 : KG e s s18 := by rw [hs18]; exact (KG.I ks16 (by omega))
    refine p_bd (Q := KGp e s) (fun s20 hs20 => ?_)
    have ks20 : KG e s s20 := by rw [hs20]; exact (KG.I ks18 (by omega))
    refine p_bd (Q := KGp e s) (fun s22 hs22 => ?_)
    have ks22 : KG e s s22 := by rw [hs22]; exact (KG.I ks20 (by omega))
    exact ks22
  ·
    exact ks
theorem kg_X3_addItem {e : Nat} (he : e = 2 ∨ e = 18) {s : ST} (hs : s.2.2 34 4 = e) {a2 : Int} : KGp e s (f_X3_addItem s a2) := by
  unfold f_X3_addItem
  have ks : KG e s s := KG.rfl hs
  refine p_bd2 (Q := KGp e s) (fun s13 v19 hs13 => ?_)
  have ks13 : KG e s s13 := KG.tr ks (by have z : KGp e s (f_X5_add s a2) := kg_X5_add he (KG.ref ks); rw [← hs13] at z; exact z)
  refine p_bd (Q := KGp e s) (fun u23 hu23 => ?_)
  refine p_bd (Q := KGp e s) (fun u25 hu25 => ?_)
  refine p_if (Q := KGp e s) (fun _ => ?_) (fun _ => ?_)
  ·
    refine p_bd (Q := KGp e s) (fun v32 hv32 => ?_)
    refine p_bd (Q := KGp e s) (fun s34 hs34 => ?_)
    have ks34 : KG e s s34 := by rw [hs34]; exact (KG.I ks13 (by omega))
    refine p_bd (Q := KGp e s) (fun s39 hs39 => ?_)
    have ks39 : KG e s s39 := by rw [hs39]; exact (KG.I ks34 (by omega))
    exact ks39
  ·
    refine p_bd (Q := KGp e s) (fun s61 hs61 => ?_)
    have ks61 : KG e s s61 := KG.tr ks13 (by rw [hs61]; exact kg_X3_blame he (KG.ref ks13))
    exact ks61
theorem kg_X3_openBlock {e : Nat} (he : e = 2 ∨ e = 18) {s : ST} (hs : s.2.2 34 4 = e) {a2 : Int} {a3 : Int} : KG e s (f_X3_openBlock s a2 a3) := by
  unfold f_X3_openBlock
  have ks : KG e s s := KG.rfl hs
  refine p_bd2 (Q := KG e s) (fun s5 v11 hs5 => ?_)
  have ks5 : KG e s s5 := KG.tr ks (by have z : KGp e s (f_X3_look s) := kg_X3_look he (KG.ref ks); rw [← hs5] at z; exact z)
  refine p_bd (Q := KG e s) (fun u13 hu13 => ?_)
  refine p_bd (Q := KG e s) (fun u15 hu15 => ?_)
  refine p_if (Q := KG e s) (fun _ => ?_) (fun _ => ?_)
  ·
    refine p_if (Q := KG e s) (fun _ => ?_) (fun _ => ?_)
    ·
      refine p_bd (Q := KG e s) (fun s25 hs25 => ?_)
      have ks25 : KG e s s25 := by rw [hs25]; exact (KG.I ks5 (by omega))
      refine p_bd (Q := KG e s) (fun s28 hs28 => ?_)
      have ks28 : KG e s s28 := by rw [hs28]; exact (KG.I ks25 (by omega))
      refine p_bd (Q := KG e s) (fun s31 hs31 => ?_)
      have ks31 : KG e s s31 := by rw [hs31]; exact (KG.I ks28 (by omega))
      refine p_bd (Q := KG e s) (fun s34 hs34 => ?_)
      have ks34 : KG e s s34 := by rw [hs34]; exact (KG.I ks31 (by omega))
      refine p_bd (Q := KG e s) (fun s39 hs39 => ?_)
      have ks39 : KG e s s39 := by rw [hs39]; exact (KG.I ks34 (by omega))
      exact ks39
    ·
      refine p_bd (Q := KG e s) (fun s49 hs49 => ?_)
      have ks49 : KG e s s49 := KG.tr ks5 (by rw [hs49]; exact kg_X3_blame he (KG.ref ks5))
      exact ks49
  ·
    refine p_bd (Q := KG e s) (fun s69 hs69 => ?_)
    have ks69 : KG e s s69 := KG.tr ks5 (by rw [hs69]; exact kg_X3_blame he (KG.ref ks5))
    exact ks69
theorem kg_X3_readNumbers {e : Nat} (he : e = 2 ∨ e = 18) {s : ST} (hs : s.2.2 34 4 = e) {a2 : Int} : KG e s (f_X3_readNumbers s a2) := by
  unfold f_X3_readNumbers
  have ks : KG e s s := KG.rfl hs
  refine p_bd (Q := KG e s) (fun c3 hc3 => ?_)
  have ec3 : c3 = e := by rw [hc3]; exact KG.ref ks
  refine p_bd2 (Q := KG e s) (fun s13 v18 hs13 => ?_)
  have ks13 : KG e s s13 := KG.tr ks (by have z : KGp e s (f_X3_readOperand s) := kg_X3_readOperand he (KG.ref ks); rw [← hs13] at z; exact z)
  refine p_bd (Q := KG e s) (fun s26 hs26 => ?_)
  have ks26 : KG e s s26 := by rw [hs26]; exact (KG.I ks13 (by omega))
  refine p_bd2 (Q := KG e s) (fun s37 v43 hs37 => ?_)
  have ks37 : KG e s s37 := KG.tr ks26 (by have z : KGp e s26 (f_X3_look s26) := kg_X3_look he (KG.ref ks26); rw [← hs37] at z; exact z)
  refine p_bd (Q := KG e s) (fun u47 hu47 => ?_)
  refine p_if (Q := KG e s) (fun _ => ?_) (fun _ => ?_)
  ·
    refine p_bd (Q := KG e s) (fun s56 hs56 => ?_)
    have ks56 : KG e s s56 := by rw [hs56]; exact (KG.I ks37 (by omega))
    refine p_bd (Q := KG e s) (fun c58 hc58 => ?_)
    have ec58 : c58 = e := by rw [hc58]; exact KG.ref ks56
    refine p_bd (Q := KG e s) (fun s60 hs60 => ?_)
    have ks60 : KG e s s60 := by rw [hs60]; exact (KG.I ks56 (by omega))
    refine p_bd (Q := KG e s) (fun c62 hc62 => ?_)
    have ec62 : c62 = e := by rw [hc62]; exact KG.ref ks60
    refine p_bd2 (Q := KG e s) (fun s73 v78 hs73 => ?_)
    have ks73 : KG e s s73 := KG.tr ks60 (by have z : KGp e s60 (f_X3_readOperand s60) := kg_X3_readOperand he (KG.ref ks60); rw [← hs73] at z; exact z)
    refine p_bd (Q := KG e s) (fun s86 hs86 => ?_)
    have ks86 : KG e s s86 := by rw [hs86]; exact (KG.I ks73 (by omega))
    exact ks86
  ·
    refine p_if (Q := KG e s) (fun _ => ?_) (fun _ => ?_)
    ·
      refine p_bd (Q := KG e s) (fun s103 hs103 => ?_)
      have ks103 : KG e s s103 := by rw [hs103]; exact (KG.I ks37 (by omega))
      refine p_bd (Q := KG e s) (fun c105 hc105 => ?_)
      have ec105 : c105 = e := by rw [hc105]; exact KG.ref ks103
      refine p_bd (Q := KG e s) (fun s107 hs107 => ?_)
      have ks107 : KG e s s107 := by rw [hs107]; exact (KG.I ks103 (by omega))
      refine p_bd (Q := KG e s) (fun c109 hc109 => ?_)
      have ec109 : c109 = e := by rw [hc109]; exact KG.ref ks107
      refine p_bd2 (Q := KG e s) (fun s120 v125 hs120 => ?_)
      have ks120 : KG e s s120 := KG.tr ks107 (by have z : KGp e s107 (f_X3_readOperand s107) := kg_X3_readOperand he (KG.ref ks107); rw [← hs120] at z; exact z)
      refine p_bd (Q := KG e s) (fun s133 hs133 => ?_)
      have ks133 : KG e s s133 := by rw [hs133]; exact (KG.I ks120 (by omega))
      exact ks133
    ·
      refine p_if (Q := KG e s) (fun _ => ?_) (fun _ => ?_)
      ·
        refine p_bd (Q := KG e s) (fun s150 hs150 => ?_)
        have ks150 : KG e s s150 := by rw [hs150]; exact (KG.I ks37 (by omega))
        refine p_bd (Q := KG e s) (fun c152 hc152 => ?_)
        have ec152 : c152 = e := by rw [hc152]; exact KG.ref ks150
        refine p_bd (Q := KG e s) (fun s154 hs154 => ?_)
        have ks154 : KG e s s154 := by rw [hs154]; exact (KG.I ks150 (by omega))
        refine p_bd (Q := KG e s) (fun c156 hc156 => ?_)
        have ec156 : c156 = e := by rw [hc156]; exact KG.ref ks154
        refine p_bd2 (Q := KG e s) (fun s167 v172 hs167 => ?_)
        have ks167 : KG e s s167 := KG.tr ks154 (by have z : KGp e s154 (f_X3_readOperand s154) := kg_X3_readOperand he (KG.ref ks154); rw [← hs167] at z; exact z)
        refine p_bd (Q := KG e s) (fun s180 hs180 => ?_)
        have ks180 : KG e s s180 := by rw [hs180]; exact (KG.I ks167 (by omega))
        exact ks180
      ·
        refine p_if (Q := KG e s) (fun _ => ?_) (fun _ => ?_)
        ·
          exact ks37
        ·
          refine p_bd (Q := KG e s) (fun s207 hs207 => ?_)
          have ks207 : KG e s s207 := by rw [hs207]; exact (KG.I ks37 (by omega))
          refine p_bd (Q := KG e s) (fun c209 hc209 => ?_)
          have ec209 : c209 = e := by rw [hc209]; exact KG.ref ks207
          refine p_bd (Q := KG e s) (fun s211 hs211 => ?_)
          have ks211 : KG e s s211 := by rw [hs211]; exact (KG.I ks207 (by omega))
          refine p_bd (Q := KG e s) (fun c213 hc213 => ?_)
          have ec213 : c213 = e := by rw [hc213]; exact KG.ref ks211
          refine p_bd2 (Q := KG e s) (fun s224 v229 hs224 => ?_)
          have ks224 : KG e s s224 := KG.tr ks211 (by have z : KGp e s211 (f_X3_readOperand s211) := kg_X3_readOperand he (KG.ref ks211); rw [← hs224] at z; exact z)
          refine p_bd (Q := KG e s) (fun s237 hs237 => ?_)
          have ks237 : KG e s s237 := by rw [hs237]; exact (KG.I ks224 (by omega))
          exact ks237
theorem kg_X3_readCondition {e : Nat} (he : e = 2 ∨ e = 18) {s : ST} (hs : s.2.2 34 4 = e) {a2 : Int} {a3 : Int} : KG e s (f_X3_readCondition s a2 a3) := by
  unfold f_X3_readCondition
  have ks : KG e s s := KG.rfl hs
  refine p_bd (Q := KG e s) (fun c1 hc1 => ?_)
  have ec1 : c1 = e := by rw [hc1]; exact KG.ref ks
  refine p_bd2 (Q := KG e s) (fun s3 v8 hs3 => ?_)
  have ks3 : KG e s s3 := KG.tr ks (by have z : KGp e s (f_X3_readOperand s) := kg_X3_readOperand he (KG.ref ks); rw [← hs3] at z; exact z)
  refine p_bd (Q := KG e s) (fun s10 hs10 => ?_)
  have ks10 : KG e s s10 := by rw [hs10]; exact (KG.I ks3 (by omega))
  refine p_bd (Q := KG e s) (fun s12 hs12 => ?_)
  have ks12 : KG e s s12 := KG.tr ks10 (by rw [hs12]; exact kg_X3_take he (KG.ref ks10))
  refine p_bd (Q := KG e s) (fun c18 hc18 => ?_)
  have ec18 : c18 = e := by rw [hc18]; exact KG.ref ks12
  refine p_bd2 (Q := KG e s) (fun s20 v25 hs20 => ?_)
  have ks20 : KG e s s20 := KG.tr ks12 (by have z : KGp e s12 (f_X3_readOperand s12) := kg_X3_readOperand he (KG.ref ks12); rw [← hs20] at z; exact z)
  refine p_bd (Q := KG e s) (fun s27 hs27 => ?_)
  have ks27 : KG e s s27 := by rw [hs27]; exact (KG.I ks20 (by omega))
  refine p_bd (Q := KG e s) (fun s29 hs29 => ?_)
  have ks29 : KG e s s29 := KG.tr ks27 (by rw [hs29]; exact kg_X3_openBlock he (KG.ref ks27))
  exact ks29
theorem kg_X3_readTry {e : Nat} (he : e = 2 ∨ e = 18) {s : ST} (hs : s.2.2 34 4 = e) : KG e s (f_X3_readTry s) := by
  unfold f_X3_readTry
  have ks : KG e s s := KG.rfl hs
  refine p_bd2 (Q := KG e s) (fun s5 v11 hs5 => ?_)
  have ks5 : KG e s s5 := KG.tr ks (by have z : KGp e s (f_X3_addItem s (-1)) := kg_X3_addItem he (KG.ref ks); rw [← hs5] at z; exact z)
  refine p_bd (Q := KG e s) (fun u13 hu13 => ?_)
  refine p_bd (Q := KG e s) (fun s20 hs20 => ?_)
  have ks20 : KG e s s20 := by rw [hs20]; exact (KG.I ks5 (by omega))
  refine p_bd (Q := KG e s) (fun s28 hs28 => ?_)
  have ks28 : KG e s s28 := KG.tr ks20 (by rw [hs28]; exact kg_X3_openBlock he (KG.ref ks20))
  exact ks28
theorem kg_X3_readSecond {e : Nat} (he : e = 2 ∨ e = 18) {s : ST} (hs : s.2.2 34 4 = e) {a2 : Int} : KG e s (f_X3_readSecond s a2) := by
  unfold f_X3_readSecond
  have ks : KG e s s := KG.rfl hs
  refine p_bd2 (Q := KG e s) (fun s3 v9 hs3 => ?_)
  have ks3 : KG e s s3 := KG.tr ks (by have z : KGp e s (f_X3_look s) := kg_X3_look he (KG.ref ks); rw [← hs3] at z; exact z)
  refine p_bd (Q := KG e s) (fun u11 hu11 => ?_)
  refine p_bd (Q := KG e s) (fun v13 hv13 => ?_)
  refine p_if (Q := KG e s) (fun _ => ?_) (fun _ => ?_)
  ·
    refine p_bd (Q := KG e s) (fun c17 hc17 => ?_)
    have ec17 : c17 = e := by rw [hc17]; exact KG.ref ks3
    refine p_bd (Q := KG e s) (fun v19 hv19 => ?_)
    refine p_if (Q := KG e s) (fun _ => ?_) (fun _ => ?_)
    ·
      exact ks3
    ·
      refine p_if (Q := KG e s) (fun _ => ?_) (fun _ => ?_)
      ·
        exact ks3
      ·
        refine p_bd (Q := KG e s) (fun s30 hs30 => ?_)
        have ks30 : KG e s s30 := by rw [hs30]; exact (KG.I ks3 (by omega))
        refine p_bd (Q := KG e s) (fun s35 hs35 => ?_)
        have ks35 : KG e s s35 := KG.tr ks30 (by rw [hs35]; exact kg_X3_openBlock he (KG.ref ks30))
        exact ks35
  ·
    refine p_bd (Q := KG e s) (fun v45 hv45 => ?_)
    refine p_if (Q := KG e s) (fun _ => ?_) (fun _ => ?_)
    ·
      refine p_bd (Q := KG e s) (fun s53 hs53 => ?_)
      have ks53 : KG e s s53 := KG.tr ks3 (by rw [hs53]; exact kg_X3_blame he (KG.ref ks3))
      exact ks53
    ·
      refine p_bd (Q := KG e s) (fun v67 hv67 => ?_)
      refine p_if (Q := KG e s) (fun _ => ?_) (fun _ => ?_)
      ·
        refine p_bd (Q := KG e s) (fun s75 hs75 => ?_)
        have ks75 : KG e s s75 := by rw [hs75]; exact (KG.I ks3 (by omega))
        refine p_bd (Q := KG e s) (fun s77 hs77 => ?_)
        have ks77 : KG e s s77 := by rw [hs77]; exact (KG.I ks75 (by omega))
        refine p_bd (Q := KG e s) (fun s82 hs82 => ?_)
        have ks82 : KG e s s82 := KG.tr ks77 (by rw [hs82]; exact kg_X3_openBlock he (KG.ref ks77))
        exact ks82
      ·
        refine p_bd (Q := KG e s) (fun s93 hs93 => ?_)
        have ks93 : KG e s s93 := KG.tr ks3 (by rw [hs93]; exact kg_X3_blame he (KG.ref ks3))
        exact ks93
theorem kg_X3_closeBlock {e : Nat} (he : e = 2 ∨ e = 18) {s : ST} (hs : s.2.2 34 4 = e) : KG e s (f_X3_closeBlock s) := by
  unfold f_X3_closeBlock
  have ks : KG e s s := KG.rfl hs
  refine p_bd (Q := KG e s) (fun v1 hv1 => ?_)
  refine p_bd (Q := KG e s) (fun s6 hs6 => ?_)
  have ks6 : KG e s s6 := by rw [hs6]; exact (KG.I ks (by omega))
  refine p_bd (Q := KG e s) (fun v8 hv8 => ?_)
  refine p_bd (Q := KG e s) (fun s13 hs13 => ?_)
  have ks13 : KG e s s13 := by rw [hs13]; exact (KG.I ks6 (by omega))
  refine p_bd (Q := KG e s) (fun v16 hv16 => ?_)
  refine p_if (Q := KG e s) (fun _ => ?_) (fun _ => ?_)
  ·
    refine p_bd (Q := KG e s) (fun v21 hv21 => ?_)
    refine p_if (Q := KG e s) (fun _ => ?_) (fun _ => ?_)
    ·
      refine p_bd (Q := KG e s) (fun v26 hv26 => ?_)
      refine p_bd (Q := KG e s) (fun s28 hs28 => ?_)
      have ks28 : KG e s s28 := by rw [hs28]; exact (KG.I ks13 (by omega))
      refine p_bd (Q := KG e s) (fun s36 hs36 => ?_)
      have ks36 : KG e s s36 := KG.tr ks28 (by rw [hs36]; exact kg_X3_readSecond he (KG.ref ks28))
      exact ks36
    ·
      refine p_bd (Q := KG e s) (fun v46 hv46 => ?_)
      refine p_bd (Q := KG e s) (fun s48 hs48 => ?_)
      have ks48 : KG e s s48 := by rw [hs48]; exact (KG.I ks13 (by omega))
      exact ks48
  ·
    refine p_bd (Q := KG e s) (fun c51 hc51 => ?_)
    have ec51 : c51 = e := by rw [hc51]; exact KG.ref ks13
    refine p_bd (Q := KG e s) (fun v53 hv53 => ?_)
    refine p_bd (Q := KG e s) (fun v58 hv58 => ?_)
    refine p_bd (Q := KG e s) (fun s60 hs60 => ?_)
    have ks60 : KG e s s60 := by rw [hs60]; exact (KG.I ks13 (by omega))
    exact ks60
theorem kg_X3_readProcedure {e : Nat} (he : e = 2 ∨ e = 18) {s : ST} (hs : s.2.2 34 4 = e) : KG e s (f_X3_readProcedure s) := by
  unfold f_X3_readProcedure
  have ks : KG e s s := KG.rfl hs
  refine p_bd2 (Q := KG e s) (fun s5 v11 hs5 => ?_)
  have ks5 : KG e s s5 := KG.tr ks (by have z : KGp e s (f_X3_look s) := kg_X3_look he (KG.ref ks); rw [← hs5] at z; exact z)
  refine p_bd (Q := KG e s) (fun u13 hu13 => ?_)
  refine p_if (Q := KG e s) (fun _ => ?_) (fun _ => ?_)
  ·
    refine p_bd (Q := KG e s) (fun s26 hs26 => ?_)
    have ks26 : KG e s s26 := KG.tr ks5 (by rw [hs26]; exact kg_X3_blame he (KG.ref ks5))
    exact ks26
  ·
    refine p_if (Q := KG e s) (fun _ => ?_) (fun _ => ?_)
    ·
      refine p_bd (Q := KG e s) (fun c41 hc41 => ?_)
      have ec41 : c41 = e := by rw [hc41]; exact KG.ref ks5
      refine p_bd (Q := KG e s) (fun v43 hv43 => ?_)
      refine p_if (Q := KG e s) (fun _ => ?_) (fun _ => ?_)
      ·
        refine p_bd (Q := KG e s) (fun s54 hs54 => ?_)
        have ks54 : KG e s s54 := KG.tr ks5 (by rw [hs54]; exact kg_X3_blame he (KG.ref ks5))
        exact ks54
      ·
        refine p_bd (Q := KG e s) (fun c67 hc67 => ?_)
        have ec67 : c67 = e := by rw [hc67]; exact KG.ref ks5
        refine p_bd (Q := KG e s) (fun v69 hv69 => ?_)
        refine p_if (Q := KG e s) (fun _ => ?_) (fun _ => ?_)
        ·
          refine p_bd (Q := KG e s) (fun s78 hs78 => ?_)
          have ks78 : KG e s s78 := by rw [hs78]; exact (KG.I ks5 (by omega))
          refine p_bd (Q := KG e s) (fun c80 hc80 => ?_)
          have ec80 : c80 = e := by rw [hc80]; exact KG.ref ks78
          refine p_bd (Q := KG e s) (fun v82 hv82 => ?_)
          refine p_bd (Q := KG e s) (fun s86 hs86 => ?_)
          have ks86 : KG e s s86 := by rw [hs86]; exact (KG.I ks78 (by omega))
          refine p_bd (Q := KG e s) (fun s94 hs94 => ?_)
          have ks94 : KG e s s94 := KG.tr ks86 (by rw [hs94]; exact kg_X3_openBlock he (KG.ref ks86))
          exact ks94
        ·
          refine p_bd (Q := KG e s) (fun s110 hs110 => ?_)
          have ks110 : KG e s s110 := KG.tr ks5 (by rw [hs110]; exact kg_X3_blame he (KG.ref ks5))
          exact ks110
    ·
      refine p_bd (Q := KG e s) (fun s130 hs130 => ?_)
      have ks130 : KG e s s130 := KG.tr ks5 (by rw [hs130]; exact kg_X3_blame he (KG.ref ks5))
      exact ks130
theorem kg_X0_walk_ {e : Nat} (he : e = 2 ∨ e = 18) : ∀ (n : Nat) (lab_ : Nat) (l0 : Nat) (l1 : Int) (l2 : Int64) (l4 : Int) (sx : ST), l0 = e → sx.2.2 34 4 = e → KG e sx (f_X0_walk_ n lab_ l0 l1 l2 l4 sx) := by
  intro n
  induction n with
  | zero =>
    intro lab_ l0 l1 l2 l4 sx el0 hs
    rw [f_X0_walk_]
    exact KG.rfl hs
  | succ n ih =>
    intro lab_ l0 l1 l2 l4 sx el0 hs
    rw [f_X0_walk_]
    have ksx : KG e sx sx := KG.rfl hs
    refine p_bd (Q := KG e sx) (fun v1 hv1 => ?_)
    refine p_if (Q := KG e sx) (fun _ => ?_) (fun _ => ?_)
    ·
      refine p_bd (Q := KG e sx) (fun v9 hv9 => ?_)
      refine p_if (Q := KG e sx) (fun _ => ?_) (fun _ => ?_)
      ·
        exact ksx
      ·
        refine p_bd (Q := KG e sx) (fun v14 hv14 => ?_)
        refine p_bd (Q := KG e sx) (fun v16 hv16 => ?_)
        refine p_bd (Q := KG e sx) (fun v18 hv18 => ?_)
        refine p_bd (Q := KG e sx) (fun s20 hs20 => ?_)
        have ks20 : KG e sx s20 := by rw [hs20]; exact (KG.I ksx (by omega))
        exact ks20
    ·
      refine p_bd (Q := KG e sx) (fun v25 hv25 => ?_)
      refine p_if (Q := KG e sx) (fun _ => ?_) (fun _ => ?_)
      ·
        refine p_bd (Q := KG e sx) (fun v31 hv31 => ?_)
        refine p_if (Q := KG e sx) (fun _ => ?_) (fun _ => ?_)
        ·
          refine p_bd (Q := KG e sx) (fun v37 hv37 => ?_)
          refine p_if (Q := KG e sx) (fun _ => ?_) (fun _ => ?_)
          ·
            refine p_bd (Q := KG e sx) (fun v43 hv43 => ?_)
            refine p_if (Q := KG e sx) (fun _ => ?_) (fun _ => ?_)
            ·
              exact KG.tr ksx (ih 13 l0 l1 l2 ((l4 + 1)) sx el0 (KG.ref ksx))
            ·
              refine p_bd (Q := KG e sx) (fun v51 hv51 => ?_)
              refine p_bd (Q := KG e sx) (fun v55 hv55 => ?_)
              refine p_bd (Q := KG e sx) (fun v57 hv57 => ?_)
              exact KG.tr ksx (ih 13 l0 l1 v57 ((l4 + 1)) sx el0 (KG.ref ksx))
          ·
            refine p_bd (Q := KG e sx) (fun v63 hv63 => ?_)
            refine p_bd (Q := KG e sx) (fun v65 hv65 => ?_)
            refine p_bd (Q := KG e sx) (fun v67 hv67 => ?_)
            refine p_bd (Q := KG e sx) (fun s69 hs69 => ?_)
            have ks69 : KG e sx s69 := by rw [hs69]; exact (KG.I ksx (by omega))
            exact KG.tr ks69 (ih 13 l0 l1 l2 ((l4 + 1)) s69 el0 (KG.ref ks69))
        ·
          refine p_bd (Q := KG e sx) (fun v75 hv75 => ?_)
          refine p_bd (Q := KG e sx) (fun v79 hv79 => ?_)
          refine p_bd (Q := KG e sx) (fun v81 hv81 => ?_)
          refine p_bd (Q := KG e sx) (fun v85 hv85 => ?_)
          refine p_if (Q := KG e sx) (fun _ => ?_) (fun _ => ?_)
          ·
            refine p_bd (Q := KG e sx) (fun v91 hv91 => ?_)
            refine p_if (Q := KG e sx) (fun _ => ?_) (fun _ => ?_)
            ·
              exact KG.tr ksx (ih 13 l0 l1 v81 ((l4 + 1)) sx el0 (KG.ref ksx))
            ·
              refine p_bd (Q := KG e sx) (fun v99 hv99 => ?_)
              refine p_bd (Q := KG e sx) (fun v103 hv103 => ?_)
              refine p_bd (Q := KG e sx) (fun v105 hv105 => ?_)
              exact KG.tr ksx (ih 13 l0 l1 v105 ((l4 + 1)) sx el0 (KG.ref ksx))
          ·
            refine p_bd (Q := KG e sx) (fun v111 hv111 => ?_)
            refine p_bd (Q := KG e sx) (fun v113 hv113 => ?_)
            refine p_bd (Q := KG e sx) (fun v115 hv115 => ?_)
            refine p_bd (Q := KG e sx) (fun s117 hs117 => ?_)
            have ks117 : KG e sx s117 := by rw [hs117]; exact (KG.I ksx (by omega))
            exact KG.tr ks117 (ih 13 l0 l1 v81 ((l4 + 1)) s117 el0 (KG.ref ks117))
      ·
        exact KG.tr ksx (ih 13 l0 l1 l2 ((l4 + 1)) sx el0 (KG.ref ksx))
theorem kg_X0_walk {e : Nat} (he : e = 2 ∨ e = 18) {s : ST} (hs : s.2.2 34 4 = e) {c1 : Nat} {a2 : Int} (ec1 : c1 = e) : KG e s (f_X0_walk s c1 a2) := by
  unfold f_X0_walk
  have ks : KG e s s := KG.rfl hs
  refine p_bd (Q := KG e s) (fun v126 hv126 => ?_)
  refine p_bd (Q := KG e s) (fun v130 hv130 => ?_)
  exact KG.tr ks (kg_X0_walk_ he 139 13 c1 a2 v130 0 s ec1 (KG.ref ks))
theorem kg_X0_settleEnds_ {e : Nat} (he : e = 2 ∨ e = 18) : ∀ (n : Nat) (lab : Nat) (l0 : Nat) (l1 : Int) (l2 : Int) (l3 : Int) (l4 : Int) (l5 : Int) (sx : ST), l0 = e → sx.2.2 34 4 = e → KG e sx (f_X0_settleEnds_ n lab l0 l1 l2 l3 l4 l5 sx) := by
  intro n
  induction n with
  | zero =>
    intro lab l0 l1 l2 l3 l4 l5 sx el0 hs
    rw [f_X0_settleEnds_]
    exact KG.rfl hs
  | succ n ih =>
    intro lab l0 l1 l2 l3 l4 l5 sx el0 hs
    rw [f_X0_settleEnds_]
    have ksx : KG e sx sx := KG.rfl hs
    refine p_if (Q := KG e sx) (fun _ => ?_) (fun _ => ?_)
    ·
      refine p_if (Q := KG e sx) (fun _ => ?_) (fun _ => ?_)
      ·
        exact ksx
      ·
        refine p_if (Q := KG e sx) (fun _ => ?_) (fun _ => ?_)
        ·
          exact ksx
        ·
          refine p_bd (Q := KG e sx) (fun v7 hv7 => ?_)
          refine p_bd (Q := KG e sx) (fun v9 hv9 => ?_)
          exact KG.tr ksx (ih 28 l0 0 l2 v7 v9 0 sx el0 (KG.ref ksx))
    ·
      refine p_bd (Q := KG e sx) (fun v12 hv12 => ?_)
      refine p_if (Q := KG e sx) (fun _ => ?_) (fun _ => ?_)
      ·
        refine p_bd (Q := KG e sx) (fun v16 hv16 => ?_)
        refine p_if (Q := KG e sx) (fun _ => ?_) (fun _ => ?_)
        ·
          exact KG.tr ksx (ih 4 l0 1 ((l2 + 1)) 0 0 0 sx el0 (KG.ref ksx))
        ·
          refine p_bd (Q := KG e sx) (fun v25 hv25 => ?_)
          refine p_if (Q := KG e sx) (fun _ => ?_) (fun _ => ?_)
          ·
            exact KG.tr ksx (ih 4 l0 0 ((l2 + 1)) 0 0 0 sx el0 (KG.ref ksx))
          ·
            exact KG.tr ksx (ih 4 l0 1 ((l2 + 1)) 0 0 0 sx el0 (KG.ref ksx))
      ·
        refine p_bd (Q := KG e sx) (fun s39 hs39 => ?_)
        have ks39 : KG e sx s39 := KG.tr ksx (by rw [hs39]; exact kg_X0_walk he (KG.ref ksx) el0)
        exact KG.tr ks39 (ih 28 l0 0 l2 l3 l4 ((l5 + 1)) s39 el0 (KG.ref ks39))
theorem kg_X0_settleEnds {e : Nat} (he : e = 2 ∨ e = 18) {s : ST} (hs : s.2.2 34 4 = e) {c1 : Nat} (ec1 : c1 = e) : KG e s (f_X0_settleEnds s c1) := by
  unfold f_X0_settleEnds
  have ks : KG e s s := KG.rfl hs
  exact KG.tr ks (kg_X0_settleEnds_ he 325 4 c1 1 0 0 0 0 s ec1 (KG.ref ks))
theorem kg_X0_add {e : Nat} (he : e = 2 ∨ e = 18) {s : ST} (hs : s.2.2 34 4 = e) {c1 : Nat} {a2 : Int} {a3 : Int} {a4 : Int} {a5 : Int} (ec1 : c1 = e) : KGp e s (f_X0_add s c1 a2 a3 a4 a5) := by
  unfold f_X0_add
  have ks : KG e s s := KG.rfl hs
  refine p_bd (Q := KGp e s) (fun v4 hv4 => ?_)
  refine p_bd (Q := KGp e s) (fun v6 hv6 => ?_)
  refine p_bd (Q := KGp e s) (fun s10 hs10 => ?_)
  have ks10 : KG e s s10 := by rw [hs10]; exact (KG.I ks (by omega))
  refine p_bd (Q := KGp e s) (fun s12 hs12 => ?_)
  have ks12 : KG e s s12 := by rw [hs12]; exact (KG.I ks10 (by omega))
  refine p_bd (Q := KGp e s) (fun s14 hs14 => ?_)
  have ks14 : KG e s s14 := by rw [hs14]; exact (KG.I ks12 (by omega))
  refine p_bd (Q := KGp e s) (fun s16 hs16 => ?_)
  have ks16 : KG e s s16 := by rw [hs16]; exact (KG.I ks14 (by omega))
  refine p_bd (Q := KGp e s) (fun s18 hs18 => ?_)
  have ks18 : KG e s s18 := by rw [hs18]; exact (KG.I ks16 (by omega))
  refine p_bd (Q := KGp e s) (fun s20 hs20 => ?_)
  have ks20 : KG e s s20 := by rw [hs20]; exact (KG.I ks18 (by omega))
  refine p_bd (Q := KGp e s) (fun s22 hs22 => ?_)
  have ks22 : KG e s s22 := by rw [hs22]; exact (KG.I ks20 (by omega))
  refine p_bd (Q := KGp e s) (fun s24 hs24 => ?_)
  have ks24 : KG e s s24 := by rw [hs24]; exact (KG.I ks22 (by omega))
  refine p_bd (Q := KGp e s) (fun s26 hs26 => ?_)
  have ks26 : KG e s s26 := by rw [hs26]; exact (KG.I ks24 (by omega))
  refine p_bd (Q := KGp e s) (fun s28 hs28 => ?_)
  have ks28 : KG e s s28 := by rw [hs28]; exact (KG.I ks26 (by omega))
  exact ks28
theorem kg_X3_readCall {e : Nat} (he : e = 2 ∨ e = 18) {s : ST} (hs : s.2.2 34 4 = e) {a2 : Int} {a3 : Int} : KG e s (f_X3_readCall s a2 a3) := by
  unfold f_X3_readCall
  have ks : KG e s s := KG.rfl hs
  refine p_bd (Q := KG e s) (fun u34_2 hu34_2 => ?_)
  refine p_bd (Q := KG e s) (fun s7 hs7 => ?_)
  have ks7 : KG e s s7 := by rw [hs7]; exact (KG.I ks (by omega))
  refine p_bd (Q := KG e s) (fun c9 hc9 => ?_)
  have ec9 : c9 = e := by rw [hc9]; exact KG.ref ks7
  refine p_bd (Q := KG e s) (fun s13 hs13 => ?_)
  have ks13 : KG e s s13 := by rw [hs13]; exact (KG.I (KG.I ks7 (by omega)) (by omega))
  refine p_bd (Q := KG e s) (fun c15 hc15 => ?_)
  have ec15 : c15 = e := by rw [hc15]; exact KG.ref ks13
  refine p_bd (Q := KG e s) (fun v17 hv17 => ?_)
  refine p_bd (Q := KG e s) (fun v21 hv21 => ?_)
  refine p_bd (Q := KG e s) (fun v23 hv23 => ?_)
  refine p_bd (Q := KG e s) (fun s25 hs25 => ?_)
  have ks25 : KG e s s25 := by rw [hs25]; exact (KG.L ks13 (by omega))
  refine p_bd (Q := KG e s) (fun s36 hs36 => ?_)
  have ks36 : KG e s s36 := KG.tr ks25 (by rw [hs36]; exact kg_X3_take he (KG.ref ks25))
  refine p_bd (Q := KG e s) (fun c48 hc48 => ?_)
  have ec48 : c48 = e := by rw [hc48]; exact KG.ref ks36
  refine p_bd2 (Q := KG e s) (fun s59 v64 hs59 => ?_)
  have ks59 : KG e s s59 := KG.tr ks36 (by have z : KGp e s36 (f_X3_readOperand s36) := kg_X3_readOperand he (KG.ref ks36); rw [← hs59] at z; exact z)
  refine p_bd (Q := KG e s) (fun s72 hs72 => ?_)
  have ks72 : KG e s s72 := by rw [hs72]; exact (KG.I ks59 (by omega))
  refine p_bd (Q := KG e s) (fun s83 hs83 => ?_)
  have ks83 : KG e s s83 := KG.tr ks72 (by rw [hs83]; exact kg_X3_take he (KG.ref ks72))
  refine p_bd (Q := KG e s) (fun c95 hc95 => ?_)
  have ec95 : c95 = e := by rw [hc95]; exact KG.ref ks83
  refine p_bd2 (Q := KG e s) (fun s106 v111 hs106 => ?_)
  have ks106 : KG e s s106 := KG.tr ks83 (by have z : KGp e s83 (f_X3_readOperand s83) := kg_X3_readOperand he (KG.ref ks83); rw [← hs106] at z; exact z)
  refine p_bd (Q := KG e s) (fun s119 hs119 => ?_)
  have ks119 : KG e s s119 := by rw [hs119]; exact (KG.I ks106 (by omega))
  refine p_bd (Q := KG e s) (fun s130 hs130 => ?_)
  have ks130 : KG e s s130 := KG.tr ks119 (by rw [hs130]; exact kg_X3_take he (KG.ref ks119))
  exact ks130
theorem kg_X3_readAssignment {e : Nat} (he : e = 2 ∨ e = 18) {s : ST} (hs : s.2.2 34 4 = e) {a2 : Int} {a3 : Int} : KG e s (f_X3_readAssignment s a2 a3) := by
  unfold f_X3_readAssignment
  have ks : KG e s s := KG.rfl hs
  refine p_bd (Q := KG e s) (fun c4 hc4 => ?_)
  have ec4 : c4 = e := by rw [hc4]; exact KG.ref ks
  refine p_bd (Q := KG e s) (fun s6 hs6 => ?_)
  have ks6 : KG e s s6 := by rw [hs6]; exact (KG.I ks (by omega))
  refine p_bd (Q := KG e s) (fun s17 hs17 => ?_)
  have ks17 : KG e s s17 := KG.tr ks6 (by rw [hs17]; exact kg_X3_take he (KG.ref ks6))
  refine p_bd2 (Q := KG e s) (fun s38 v44 hs38 => ?_)
  have ks38 : KG e s s38 := KG.tr ks17 (by have z : KGp e s17 (f_X3_look s17) := kg_X3_look he (KG.ref ks17); rw [← hs38] at z; exact z)
  refine p_if (Q := KG e s) (fun _ => ?_) (fun _ => ?_)
  ·
    refine p_bd (Q := KG e s) (fun s63 hs63 => ?_)
    have ks63 : KG e s s63 := KG.tr ks38 (by rw [hs63]; exact kg_X3_readNumbers he (KG.ref ks38))
    refine p_bd (Q := KG e s) (fun s84 hs84 => ?_)
    have ks84 : KG e s s84 := KG.tr ks63 (by rw [hs84]; exact kg_X3_take he (KG.ref ks63))
    exact ks84
  ·
    refine p_if (Q := KG e s) (fun _ => ?_) (fun _ => ?_)
    ·
      refine p_bd (Q := KG e s) (fun s117 hs117 => ?_)
      have ks117 : KG e s s117 := KG.tr ks38 (by rw [hs117]; exact kg_X3_readNumbers he (KG.ref ks38))
      refine p_bd (Q := KG e s) (fun s138 hs138 => ?_)
      have ks138 : KG e s s138 := KG.tr ks117 (by rw [hs138]; exact kg_X3_take he (KG.ref ks117))
      exact ks138
    ·
      refine p_bd (Q := KG e s) (fun v163 hv163 => ?_)
      refine p_if (Q := KG e s) (fun _ => ?_) (fun _ => ?_)
      ·
        refine p_bd (Q := KG e s) (fun s177 hs177 => ?_)
        have ks177 : KG e s s177 := KG.tr ks38 (by rw [hs177]; exact kg_X3_readNumbers he (KG.ref ks38))
        refine p_bd (Q := KG e s) (fun s198 hs198 => ?_)
        have ks198 : KG e s s198 := KG.tr ks177 (by rw [hs198]; exact kg_X3_take he (KG.ref ks177))
        exact ks198
      ·
        refine p_bd (Q := KG e s) (fun s229 hs229 => ?_)
        have ks229 : KG e s s229 := KG.tr ks38 (by rw [hs229]; exact kg_X3_readCall he (KG.ref ks38))
        refine p_bd (Q := KG e s) (fun s255 hs255 => ?_)
        have ks255 : KG e s s255 := KG.tr ks229 (by rw [hs255]; exact kg_X3_take he (KG.ref ks229))
        exact ks255
theorem kg_X3_readStatement {e : Nat} (he : e = 2 ∨ e = 18) {s : ST} (hs : s.2.2 34 4 = e) {a2 : Int} : KG e s (f_X3_readStatement s a2) := by
  unfold f_X3_readStatement
  have ks : KG e s s := KG.rfl hs
  refine p_bd (Q := KG e s) (fun u34_2 hu34_2 => ?_)
  refine p_bd (Q := KG e s) (fun u34_7 hu34_7 => ?_)
  refine p_bd (Q := KG e s) (fun v7 hv7 => ?_)
  refine p_if (Q := KG e s) (fun _ => ?_) (fun _ => ?_)
  ·
    refine p_bd (Q := KG e s) (fun c11 hc11 => ?_)
    have ec11 : c11 = e := by rw [hc11]; exact KG.ref ks
    refine p_bd (Q := KG e s) (fun v13 hv13 => ?_)
    refine p_if (Q := KG e s) (fun _ => ?_) (fun _ => ?_)
    ·
      refine p_bd (Q := KG e s) (fun c17 hc17 => ?_)
      have ec17 : c17 = e := by rw [hc17]; exact KG.ref ks
      refine p_bd (Q := KG e s) (fun c19 hc19 => ?_)
      have ec19 : c19 = e := by rw [hc19]; exact KG.ref ks
      refine p_bd (Q := KG e s) (fun v21 hv21 => ?_)
      refine p_bd2 (Q := KG e s) (fun s35 v46 hs35 => ?_)
      have ks35 : KG e s s35 := KG.tr ks (by have z : KGp e s (f_X0_add s c17 v7 ((v21 - 1)) ((u34_7 - 1)) u34_2) := kg_X0_add he (KG.ref ks) ec17; rw [← hs35] at z; exact z)
      refine p_bd2 (Q := KG e s) (fun s58 v64 hs58 => ?_)
      have ks58 : KG e s s58 := KG.tr ks35 (by have z : KGp e s35 (f_X3_addItem s35 v46) := kg_X3_addItem he (KG.ref ks35); rw [← hs58] at z; exact z)
      refine p_bd (Q := KG e s) (fun u66 hu66 => ?_)
      refine p_bd (Q := KG e s) (fun s73 hs73 => ?_)
      have ks73 : KG e s s73 := by rw [hs73]; exact (KG.I ks58 (by omega))
      refine p_if (Q := KG e s) (fun _ => ?_) (fun _ => ?_)
      ·
        refine p_if (Q := KG e s) (fun _ => ?_) (fun _ => ?_)
        ·
          refine p_bd (Q := KG e s) (fun s85 hs85 => ?_)
          have ks85 : KG e s s85 := KG.tr ks73 (by rw [hs85]; exact kg_X3_readCondition he (KG.ref ks73))
          exact ks85
        ·
          refine p_if (Q := KG e s) (fun _ => ?_) (fun _ => ?_)
          ·
            refine p_bd (Q := KG e s) (fun c96 hc96 => ?_)
            have ec96 : c96 = e := by rw [hc96]; exact KG.ref ks73
            refine p_bd2 (Q := KG e s) (fun s104 v109 hs104 => ?_)
            have ks104 : KG e s s104 := KG.tr ks73 (by have z : KGp e s73 (f_X3_readOperand s73) := kg_X3_readOperand he (KG.ref ks73); rw [← hs104] at z; exact z)
            refine p_bd (Q := KG e s) (fun s115 hs115 => ?_)
            have ks115 : KG e s s115 := by rw [hs115]; exact (KG.I ks104 (by omega))
            refine p_bd (Q := KG e s) (fun s123 hs123 => ?_)
            have ks123 : KG e s s123 := KG.tr ks115 (by rw [hs123]; exact kg_X3_take he (KG.ref ks115))
            exact ks123
          ·
            refine p_bd (Q := KG e s) (fun s140 hs140 => ?_)
            have ks140 : KG e s s140 := KG.tr ks73 (by rw [hs140]; exact kg_X3_readCondition he (KG.ref ks73))
            exact ks140
      ·
        refine p_bd (Q := KG e s) (fun v152 hv152 => ?_)
        refine p_bd (Q := KG e s) (fun s160 hs160 => ?_)
        have ks160 : KG e s s160 := KG.tr ks73 (by rw [hs160]; exact kg_X3_readAssignment he (KG.ref ks73))
        exact ks160
    ·
      refine p_bd (Q := KG e s) (fun s183 hs183 => ?_)
      have ks183 : KG e s s183 := KG.tr ks (by rw [hs183]; exact kg_X3_blame he (KG.ref ks))
      exact ks183
  ·
    refine p_bd (Q := KG e s) (fun s203 hs203 => ?_)
    have ks203 : KG e s s203 := KG.tr ks (by rw [hs203]; exact kg_X3_blame he (KG.ref ks))
    exact ks203
theorem kg_X6_wire_ {e : Nat} (he : e = 2 ∨ e = 18) : ∀ (n lab : Nat) (l2 : Int) (sx : ST), sx.2.2 34 4 = e → sx.2.2 48 1 = e → KG e sx (f_X6_wire_ n lab l2 sx) := by
  intro n
  induction n with
  | zero =>
    intro lab l2 sx hs _
    rw [f_X6_wire_]
    exact KG.rfl hs
  | succ n ih =>
    intro lab l2 sx hs hw
    rw [f_X6_wire_]
    have ksx : KG e sx sx := KG.rfl hs
    refine p_bd (Q := KG e sx) (fun c1 h1 => ?_)
    refine p_bd (Q := KG e sx) (fun v3 h3 => ?_)
    refine p_if (Q := KG e sx) (fun _ => ksx) (fun _ => ?_)
    refine p_bd (Q := KG e sx) (fun v8 h8 => ?_)
    refine p_bd (Q := KG e sx) (fun c10 h10 => ?_)
    have ec10 : c10 = e := h10.trans hw
    refine p_bd2 (Q := KG e sx) (fun s14 v17 h14 => ?_)
    have w14 : WL e sx s14 := by
      have z := WL.all he 7 sx v8 (40 + l2) (-1) hw
      rw [← wb_0 sx v8 (40 + l2) (-1) 0, ← h14] at z
      exact z
    have k14 : KG e sx s14 := KG.wl he ksx w14
    refine p_bd (Q := KG e sx) (fun s19 h19 => ?_)
    have k19 : KG e sx s19 := by rw [h19]; exact KG.I k14 (by omega)
    have r19 : s19.2.2 48 1 = e := by
      rw [h19]
      show s14.2.2 48 1 = e
      rw [w14.1]
      exact hw
    exact KG.tr k19 (ih _ _ s19 (KG.ref k19) r19)
theorem kg_X6_wire {e : Nat} (he : e = 2 ∨ e = 18) {s : ST} (hs : s.2.2 34 4 = e) {c2 : Nat} (ec2 : c2 = e) : KG e s (f_X6_wire s c2) := by
  unfold f_X6_wire
  have ks : KG e s s := KG.rfl hs
  refine p_bd (Q := KG e s) (fun s24 h24 => ?_)
  have k24 : KG e s s24 := by rw [h24]; exact KG.R ks (by omega) (by omega) (by omega)
  refine KG.tr k24 (kg_X6_wire_ he 34 7 0 s24 (KG.ref k24) ?_)
  rw [h24]
  show (if 48 = 48 ∧ 1 = 1 then c2 else s.2.2 48 1) = e
  rw [if_pos ⟨rfl, rfl⟩]
  exact ec2
theorem kg_X3_finish {e : Nat} (he : e = 2 ∨ e = 18) {s : ST} (hs : s.2.2 34 4 = e) : KG e s (f_X3_finish s) := by
  unfold f_X3_finish
  have ks : KG e s s := KG.rfl hs
  refine p_bd (Q := KG e s) (fun v1 hv1 => ?_)
  refine p_if (Q := KG e s) (fun _ => ?_) (fun _ => ?_)
  ·
    refine p_bd (Q := KG e s) (fun c5 hc5 => ?_)
    have ec5 : c5 = e := by rw [hc5]; exact KG.ref ks
    refine p_bd (Q := KG e s) (fun v9 hv9 => ?_)
    refine p_if (Q := KG e s) (fun _ => ?_) (fun _ => ?_)
    ·
      refine p_bd (Q := KG e s) (fun c13 hc13 => ?_)
      have ec13 : c13 = e := by rw [hc13]; exact KG.ref ks
      refine p_bd (Q := KG e s) (fun s15 hs15 => ?_)
      have ks15 : KG e s s15 := KG.tr ks (by rw [hs15]; exact kg_X6_wire he (KG.ref ks) ec13)
      refine p_bd (Q := KG e s) (fun c19 hc19 => ?_)
      have ec19 : c19 = e := by rw [hc19]; exact KG.ref ks15
      refine p_bd (Q := KG e s) (fun s21 hs21 => ?_)
      have ks21 : KG e s s21 := KG.tr ks15 (by rw [hs21]; exact kg_X0_settleEnds he (KG.ref ks15) ec19)
      refine p_bd (Q := KG e s) (fun c25 hc25 => ?_)
      have ec25 : c25 = e := by rw [hc25]; exact KG.ref ks21
      refine p_bd (Q := KG e s) (fun v29 hv29 => ?_)
      refine p_if (Q := KG e s) (fun _ => ?_) (fun _ => ?_)
      ·
        exact ks21
      ·
        refine p_bd (Q := KG e s) (fun v34 hv34 => ?_)
        refine p_bd (Q := KG e s) (fun s36 hs36 => ?_)
        have ks36 : KG e s s36 := KG.tr ks21 (by rw [hs36]; exact kg_X3_blame he (KG.ref ks21))
        exact ks36
    ·
      refine p_bd (Q := KG e s) (fun v45 hv45 => ?_)
      refine p_bd (Q := KG e s) (fun s47 hs47 => ?_)
      have ks47 : KG e s s47 := KG.tr ks (by rw [hs47]; exact kg_X3_blame he (KG.ref ks))
      exact ks47
  ·
    exact ks
theorem kg_X0_clear {e : Nat} (he : e = 2 ∨ e = 18) {s : ST} (hs : s.2.2 34 4 = e) {c1 : Nat} (ec1 : c1 = e) : KG e s (f_X0_clear s c1) := by
  unfold f_X0_clear
  have ks : KG e s s := KG.rfl hs
  refine p_bd (Q := KG e s) (fun s4 hs4 => ?_)
  have ks4 : KG e s s4 := by rw [hs4]; exact (KG.I ks (by omega))
  refine p_bd (Q := KG e s) (fun s6 hs6 => ?_)
  have ks6 : KG e s s6 := by rw [hs6]; exact (KG.I ks4 (by omega))
  refine p_bd (Q := KG e s) (fun s8 hs8 => ?_)
  have ks8 : KG e s s8 := by rw [hs8]; exact (KG.L ks6 (by omega))
  refine p_bd (Q := KG e s) (fun s10 hs10 => ?_)
  have ks10 : KG e s s10 := by rw [hs10]; exact (KG.I ks8 (by omega))
  refine p_bd (Q := KG e s) (fun s12 hs12 => ?_)
  have ks12 : KG e s s12 := by rw [hs12]; exact (KG.I ks10 (by omega))
  exact ks12
theorem kg_X3_start {e : Nat} (he : e = 2 ∨ e = 18) {s : ST} {a3 : Int} {c4 : Nat} (ec4 : c4 = e) : KG e s (f_X3_start s a3 c4) := by
  unfold f_X3_start
  refine p_bd (Q := KG e s) (fun s1 h1 => ?_)
  refine p_bd (Q := KG e s) (fun v3 h3 => ?_)
  refine p_bd (Q := KG e s) (fun s7 h7 => ?_)
  refine p_bd (Q := KG e s) (fun s9 h9 => ?_)
  refine p_bd (Q := KG e s) (fun s11 h11 => ?_)
  refine p_bd (Q := KG e s) (fun s13 h13 => ?_)
  have k13 : KG e s s13 := by
    rw [h13, h11, h9, h7, h1]
    refine ⟨?_, ?_, fun p p1 => ⟨?_, rfl, ?_⟩⟩
    · show (if 34 = 34 ∧ 4 = 4 then c4 else if 34 = 34 ∧ 4 = 0 then 1 else s.2.2 34 4) = e
      rw [if_pos ⟨rfl, rfl⟩]
      exact ec4
    · funext q
      show (if 0 = 34 ∧ q = 4 then c4 else if 0 = 34 ∧ q = 0 then 1 else s.2.2 0 q) = s.2.2 0 q
      rw [if_neg (by omega), if_neg (by omega)]
    · show (sI (sI (sI (sR s 34 0 1) 34 1 v3) 34 2 0) 34 3 0).1 p = s.1 p
      rw [sI_nc (by omega), sI_nc (by omega), sI_nc (by omega)]
      rfl
    · funext q
      show (if p = 34 ∧ q = 4 then c4 else if p = 34 ∧ q = 0 then 1 else s.2.2 p q) = s.2.2 p q
      rw [if_neg (by omega), if_neg (by omega)]
  refine p_bd (Q := KG e s) (fun c15 h15 => ?_)
  have ec15 : c15 = e := by rw [h15]; exact KG.ref k13
  refine p_bd (Q := KG e s) (fun s17 h17 => ?_)
  have k17 : KG e s s17 := KG.tr k13 (by rw [h17]; exact kg_X0_clear he (KG.ref k13) ec15)
  refine p_bd (Q := KG e s) (fun s24 h24 => ?_)
  have k24 : KG e s s24 := by rw [h24]; exact KG.I k17 (by omega)
  refine p_bd (Q := KG e s) (fun s26 h26 => ?_)
  rw [h26]
  exact KG.I k24 (by omega)
theorem kg_X3_read_ {e : Nat} (he : e = 2 ∨ e = 18) : ∀ (n : Nat) (lab_ : Nat) (l4 : Int) (sx : ST), sx.2.2 34 4 = e → KGp e sx (f_X3_read_ n lab_ l4 sx) := by
  intro n
  induction n with
  | zero =>
    intro lab_ l4 sx  hs
    rw [f_X3_read_]
    exact KG.rfl hs
  | succ n ih =>
    intro lab_ l4 sx  hs
    rw [f_X3_read_]
    have ksx : KG e sx sx := KG.rfl hs
    refine p_if (Q := KGp e sx) (fun _ => ?_) (fun _ => ?_)
    ·
      refine p_bd (Q := KGp e sx) (fun s9 hs9 => ?_)
      have ks9 : KG e sx s9 := KG.tr ksx (by rw [hs9]; exact kg_X3_finish he (KG.ref ksx))
      refine p_bd (Q := KGp e sx) (fun u15 hu15 => ?_)
      exact ks9
    ·
      refine p_bd (Q := KGp e sx) (fun v21 hv21 => ?_)
      refine p_if (Q := KGp e sx) (fun _ => ?_) (fun _ => ?_)
      ·
        refine p_bd (Q := KGp e sx) (fun s33 hs33 => ?_)
        have ks33 : KG e sx s33 := KG.tr ksx (by rw [hs33]; exact kg_X3_finish he (KG.ref ksx))
        refine p_bd (Q := KGp e sx) (fun u39 hu39 => ?_)
        exact ks33
      ·
        refine p_bd2 (Q := KGp e sx) (fun s52 v58 hs52 => ?_)
        have ks52 : KG e sx s52 := KG.tr ksx (by have z : KGp e sx (f_X3_look sx) := kg_X3_look he (KG.ref ksx); rw [← hs52] at z; exact z)
        refine p_bd (Q := KGp e sx) (fun u64 hu64 => ?_)
        refine p_if (Q := KGp e sx) (fun _ => ?_) (fun _ => ?_)
        ·
          refine p_if (Q := KGp e sx) (fun _ => ?_) (fun _ => ?_)
          ·
            refine p_if (Q := KGp e sx) (fun _ => ?_) (fun _ => ?_)
            ·
              refine p_bd (Q := KGp e sx) (fun s84 hs84 => ?_)
              have ks84 : KG e sx s84 := KG.tr ks52 (by rw [hs84]; exact kg_X3_readStatement he (KG.ref ks52))
              exact KG.trp ks84 (ih 14 ((l4 + 1)) s84 (KG.ref ks84))
            ·
              refine p_bd (Q := KGp e sx) (fun s121 hs121 => ?_)
              have ks121 : KG e sx s121 := KG.tr ks52 (by rw [hs121]; exact kg_X3_readTry he (KG.ref ks52))
              exact KG.trp ks121 (ih 14 ((l4 + 1)) s121 (KG.ref ks121))
          ·
            refine p_bd (Q := KGp e sx) (fun s153 hs153 => ?_)
            have ks153 : KG e sx s153 := KG.tr ks52 (by rw [hs153]; exact kg_X3_closeBlock he (KG.ref ks52))
            exact KG.trp ks153 (ih 14 ((l4 + 1)) s153 (KG.ref ks153))
        ·
          refine p_if (Q := KGp e sx) (fun _ => ?_) (fun _ => ?_)
          ·
            refine p_bd (Q := KGp e sx) (fun s189 hs189 => ?_)
            have ks189 : KG e sx s189 := KG.tr ks52 (by rw [hs189]; exact kg_X3_readProcedure he (KG.ref ks52))
            exact KG.trp ks189 (ih 14 ((l4 + 1)) s189 (KG.ref ks189))
          ·
            refine p_bd (Q := KGp e sx) (fun s222 hs222 => ?_)
            have ks222 : KG e sx s222 := KG.tr ks52 (by rw [hs222]; exact kg_X3_finish he (KG.ref ks52))
            refine p_bd (Q := KGp e sx) (fun u228 hu228 => ?_)
            exact ks222
theorem kg_X3_read {e : Nat} (he : e = 2 ∨ e = 18) {s : ST} {a3 : Int} {c4 : Nat} (ec4 : c4 = e) : KGp e s (f_X3_read s a3 c4) := by
  unfold f_X3_read
  refine p_bd (Q := KGp e s) (fun s239 h => ?_)
  have k239 : KG e s s239 := by rw [h]; exact kg_X3_start he ec4
  refine p_bd (Q := KGp e s) (fun s258 h2 => ?_)
  have k258 : KG e s s258 := KG.tr k239 (by rw [h2]; exact kg_X3_readProcedure he (KG.ref k239))
  exact KG.trp k258 (kg_X3_read_ he 1522 14 0 s258 (KG.ref k258))

