/-! what the class's reading knows of its own code: calls are the statements of that kind; others call nothing -/
def CL (e : Nat) (s : ST) : Prop := 0 ≤ s.1 e 0 ∧ s.1 e 0 ≤ 40 ∧ (∀ k : Int, 0 ≤ k → k < s.1 e 0 → s.1 (e + 2) k.toNat ≠ 1 → s.1 (e + 7) k.toNat = -2) ∧ (∀ k : Int, 0 ≤ k → k < 64 → (bt (s.2.1 e 2) k ↔ k < s.1 e 0 ∧ s.1 (e + 2) k.toNat = 1))
def CLp (e : Nat) (z : ST × Int) : Prop := CL e z.1
theorem KEf.cl {e : Nat} {s s' : ST} (a : KEf e s s') (h : CL e s) : CL e s' := by
  obtain ⟨_, h0, h2, h7, hl⟩ := a
  unfold CL
  rw [h0, h2, h7, hl]
  exact h
theorem cl_add {e : Nat} (he : e = 2 ∨ e = 18) {s : ST} {a2 a3 a4 a5 : Int} (cl : CL e s) (lt : s.1 e 0 < 40) (a : a2 ≠ 1) : CL e (f_X0_add s e a2 a3 a4 a5).1 ∧ (f_X0_add s e a2 a3 a4 a5).2 = s.1 e 0 ∧ (f_X0_add s e a2 a3 a4 a5).1.1 e 0 = s.1 e 0 + 1 := by
  obtain ⟨fin, kf⟩ : ∃ z, z = f_X0_add s e a2 a3 a4 a5 := ⟨_, rfl⟩
  rw [← kf]
  unfold f_X0_add at kf
  have k1 := bd_e kf rfl
  have k2 := bd_e k1 rfl
  have k3 := bd_e k2 rfl
  have k4 := bd_e k3 rfl
  have k5 := bd_e k4 rfl
  have k6 := bd_e k5 rfl
  have k7 := bd_e k6 rfl
  have k8 := bd_e k7 rfl
  have k9 := bd_e k8 rfl
  have k10 := bd_e k9 rfl
  have k11 := bd_e k10 rfl
  have k12 := bd_e k11 rfl
  have e1 := congrArg Prod.fst k12
  have e2 := congrArg Prod.snd k12
  dsimp only at e1 e2
  have m0 : fin.1.1 e 0 = s.1 e 0 + 1 := by
    rw [e1, sI_nc (show e ≠ e + 10 by omega), sI_nc (show e ≠ e + 9 by omega), sI_nc (show e ≠ e + 8 by omega), sI_nc (show e ≠ e + 7 by omega), sI_nc (show e ≠ e + 6 by omega), sI_nc (show e ≠ e + 5 by omega), sI_nc (show e ≠ e + 4 by omega), sI_nc (show e ≠ e + 3 by omega), sI_nc (show e ≠ e + 2 by omega), sI_eq]
  have m2 : ∀ k : Nat, fin.1.1 (e + 2) k = if k = (s.1 e 0).toNat then a2 else s.1 (e + 2) k := fun k => by
    rw [e1, sI_nc (show e + 2 ≠ e + 10 by omega), sI_nc (show e + 2 ≠ e + 9 by omega), sI_nc (show e + 2 ≠ e + 8 by omega), sI_nc (show e + 2 ≠ e + 7 by omega), sI_nc (show e + 2 ≠ e + 6 by omega), sI_nc (show e + 2 ≠ e + 5 by omega), sI_nc (show e + 2 ≠ e + 4 by omega), sI_nc (show e + 2 ≠ e + 3 by omega)]
    by_cases z : k = (s.1 e 0).toNat
    · rw [if_pos z, z, sI_eq]
    · rw [if_neg z, sI_ne (show ¬ (e + 2 = e + 2 ∧ k = (s.1 e 0).toNat) by omega), sI_nc (show e + 2 ≠ e by omega)]
  have m7 : ∀ k : Nat, fin.1.1 (e + 7) k = if k = (s.1 e 0).toNat then -2 else s.1 (e + 7) k := fun k => by
    rw [e1, sI_nc (show e + 7 ≠ e + 10 by omega), sI_nc (show e + 7 ≠ e + 9 by omega), sI_nc (show e + 7 ≠ e + 8 by omega)]
    by_cases z : k = (s.1 e 0).toNat
    · rw [if_pos z, z, sI_eq]
    · rw [if_neg z, sI_ne (show ¬ (e + 7 = e + 7 ∧ k = (s.1 e 0).toNat) by omega), sI_nc (show e + 7 ≠ e + 6 by omega), sI_nc (show e + 7 ≠ e + 5 by omega), sI_nc (show e + 7 ≠ e + 4 by omega), sI_nc (show e + 7 ≠ e + 3 by omega), sI_nc (show e + 7 ≠ e + 2 by omega), sI_nc (show e + 7 ≠ e by omega)]
  have ml : fin.1.2.1 = s.2.1 := by rw [e1]; rfl
  obtain ⟨l0, l1, l2, l3⟩ := cl
  refine ⟨⟨by rw [m0]; omega, by rw [m0]; omega, fun k k0 k1 z => ?_, fun k k0 k1 => ?_⟩, e2, m0⟩
  · rw [m0] at k1
    rw [m2] at z
    rw [m7]
    by_cases y : k.toNat = (s.1 e 0).toNat
    · rw [if_pos y]
    · rw [if_neg y] at z ⊢
      exact l2 k k0 (by omega) z
  · rw [ml, l3 k k0 k1, m0, m2]
    by_cases y : k.toNat = (s.1 e 0).toNat
    · rw [if_pos y]
      exact ⟨fun z => absurd z.1 (by omega), fun z => absurd z.2 a⟩
    · rw [if_neg y]
      exact ⟨fun z => ⟨by omega, z.2⟩, fun z => ⟨by omega, z.2⟩⟩
theorem cl_X3_readCall {e : Nat} (he : e = 2 ∨ e = 18) {s : ST} (hs : s.2.2 34 4 = e) {a2 a3 : Int} (cl : CL e s) (a0 : 0 ≤ a2) (a1 : a2 < s.1 e 0) : CL e (f_X3_readCall s a2 a3) := by
  unfold f_X3_readCall
  refine p_bd (Q := CL e) (fun u34_2 _ => ?_)
  refine p_bd (Q := CL e) (fun s7 h7 => ?_)
  refine p_bd (Q := CL e) (fun c9 h9 => ?_)
  have e9 : c9 = e := by rw [h9, h7]; exact hs
  refine p_bd (Q := CL e) (fun s13 h13 => ?_)
  refine p_bd (Q := CL e) (fun c15 h15 => ?_)
  have e15 : c15 = e := by rw [h15, h13, h7]; exact hs
  refine p_bd (Q := CL e) (fun v17 h17 => ?_)
  refine p_bd (Q := CL e) (fun v21 h21 => ?_)
  refine p_bd (Q := CL e) (fun v23 h23 => ?_)
  refine p_bd (Q := CL e) (fun s25 h25 => ?_)
  have r25 : s25.2.2 34 4 = e := by rw [h25, h13, h7]; exact hs
  have i25 : s25.1 = s13.1 := by rw [h25]; rfl
  have c25 : CL e s25 := by
    have n0 : s25.1 e 0 = s.1 e 0 := by
      rw [i25, h13, e9, sI_nc (show e ≠ e + 7 by omega), sI_nc (show e ≠ e + 2 by omega), h7, sI_nc (show e ≠ 34 by omega)]
    have n2 : ∀ k : Nat, s25.1 (e + 2) k = if k = a2.toNat then 1 else s.1 (e + 2) k := fun k => by
      rw [i25, h13, e9, sI_nc (show e + 2 ≠ e + 7 by omega)]
      by_cases z : k = a2.toNat
      · rw [if_pos z, z, sI_eq]
      · rw [if_neg z, sI_ne (show ¬ (e + 2 = e + 2 ∧ k = a2.toNat) by omega), h7, sI_nc (show e + 2 ≠ 34 by omega)]
    have n7 : ∀ k : Nat, k ≠ a2.toNat → s25.1 (e + 7) k = s.1 (e + 7) k := fun k z => by
      rw [i25, h13, e9, sI_ne (show ¬ (e + 7 = e + 7 ∧ k = a2.toNat) by omega), sI_nc (show e + 7 ≠ e + 2 by omega), h7, sI_nc (show e + 7 ≠ 34 by omega)]
    have q : s25.2.1 e 2 = o_lor (s.2.1 e 2) (f_X7_bit s13 a2) := by
      rw [h25]
      show (if e = c15 ∧ 2 = 2 then v23 else s13.2.1 e 2) = _
      rw [if_pos ⟨e15.symm, rfl⟩, h23, h17, h21, e15]
      have y : s13.2.1 = s.2.1 := by rw [h13, h7]; rfl
      rw [y]
    obtain ⟨l0, l1, l2, l3⟩ := cl
    have nl : ∀ k, 0 ≤ k → (bt (s25.2.1 e 2) k ↔ bt (s.2.1 e 2) k ∨ k = a2) := fun k k0 => by
      rw [q, lor_r, bit_r a0 (by omega) k0]
    refine ⟨by rw [n0]; exact l0, by rw [n0]; exact l1, fun k k0 k1 z => ?_, fun k k0 k1 => ?_⟩
    · rw [n0] at k1
      rw [n2] at z
      by_cases y : k.toNat = a2.toNat
      · rw [if_pos y] at z
        exact absurd rfl z
      · rw [if_neg y] at z
        rw [n7 _ y]
        exact l2 k k0 k1 z
    · rw [nl k k0, n0, n2]
      by_cases y : k.toNat = a2.toNat
      · rw [if_pos y]
        exact ⟨fun _ => ⟨by omega, rfl⟩, fun _ => Or.inr (by omega)⟩
      · rw [if_neg y, l3 k k0 k1]
        exact ⟨fun z => z.elim id (fun w => absurd (by rw [w]) y), Or.inl⟩
  refine p_bd (Q := CL e) (fun s36 h36 => ?_)
  have k36 : KEf e s25 s36 := by rw [h36]; exact ke_X3_take he r25
  refine p_bd (Q := CL e) (fun c48 h48 => ?_)
  have e48 : c48 = e := by rw [h48]; exact KEf.ref k36
  refine p_bd2 (Q := CL e) (fun s59 v64 h59 => ?_)
  have k59 : KEf e s25 s59 := KEf.tr k36 (by have z : KEfp e s36 (f_X3_readOperand s36) := ke_X3_readOperand he (KEf.ref k36); rw [← h59] at z; exact z)
  refine p_bd (Q := CL e) (fun s72 h72 => ?_)
  have k72 : KEf e s25 s72 := by rw [h72]; exact KEf.I k59 (by omega) (by omega) (by omega) (by omega)
  refine p_bd (Q := CL e) (fun s83 h83 => ?_)
  have k83 : KEf e s25 s83 := KEf.tr k72 (by rw [h83]; exact ke_X3_take he (KEf.ref k72))
  refine p_bd (Q := CL e) (fun c95 h95 => ?_)
  have e95 : c95 = e := by rw [h95]; exact KEf.ref k83
  refine p_bd2 (Q := CL e) (fun s106 v111 h106 => ?_)
  have k106 : KEf e s25 s106 := KEf.tr k83 (by have z : KEfp e s83 (f_X3_readOperand s83) := ke_X3_readOperand he (KEf.ref k83); rw [← h106] at z; exact z)
  refine p_bd (Q := CL e) (fun s119 h119 => ?_)
  have k119 : KEf e s25 s119 := by rw [h119]; exact KEf.I k106 (by omega) (by omega) (by omega) (by omega)
  refine p_bd (Q := CL e) (fun s130 h130 => ?_)
  have k130 : KEf e s25 s130 := KEf.tr k119 (by rw [h130]; exact ke_X3_take he (KEf.ref k119))
  exact KEf.cl k130 c25
theorem cl_X3_readAssignment {e : Nat} (he : e = 2 ∨ e = 18) {s : ST} (hs : s.2.2 34 4 = e) {a2 a3 : Int} (cl : CL e s) (a0 : 0 ≤ a2) (a1 : a2 < s.1 e 0) : CL e (f_X3_readAssignment s a2 a3) := by
  unfold f_X3_readAssignment
  have ks : KEf e s s := KEf.rfl hs
  refine p_bd (Q := CL e) (fun c4 h4 => ?_)
  have e4 : c4 = e := by rw [h4]; exact hs
  refine p_bd (Q := CL e) (fun s6 h6 => ?_)
  have k6 : KEf e s s6 := by rw [h6]; exact KEf.I ks (by omega) (by omega) (by omega) (by omega)
  refine p_bd (Q := CL e) (fun s17 h17 => ?_)
  have k17 : KEf e s s17 := KEf.tr k6 (by rw [h17]; exact ke_X3_take he (KEf.ref k6))
  refine p_bd2 (Q := CL e) (fun s38 v44 h38 => ?_)
  have k38 : KEf e s s38 := KEf.tr k17 (by have z : KEfp e s17 (f_X3_look s17) := ke_X3_look he (KEf.ref k17); rw [← h38] at z; exact z)
  have num : CL e (bd (f_X3_readNumbers s38 a2) fun s63 => bd (f_X3_take s63 59) fun s84 => s84) := by
    refine p_bd (Q := CL e) (fun s63 h63 => ?_)
    have k63 : KEf e s s63 := KEf.tr k38 (by rw [h63]; exact ke_X3_readNumbers he (KEf.ref k38))
    refine p_bd (Q := CL e) (fun s84 h84 => ?_)
    have k84 : KEf e s s84 := KEf.tr k63 (by rw [h84]; exact ke_X3_take he (KEf.ref k63))
    exact KEf.cl k84 cl
  refine p_if (Q := CL e) (fun _ => num) (fun _ => ?_)
  refine p_if (Q := CL e) (fun _ => num) (fun _ => ?_)
  refine p_bd (Q := CL e) (fun v163 h163 => ?_)
  refine p_if (Q := CL e) (fun _ => num) (fun _ => ?_)
  refine p_bd (Q := CL e) (fun s229 h229 => ?_)
  have c229 : CL e s229 := by rw [h229]; exact cl_X3_readCall he (KEf.ref k38) (KEf.cl k38 cl) a0 (by rw [k38.2.1]; exact a1)
  have r229 : s229.2.2 34 4 = e := by rw [h229]; exact (kd_X3_readCall he (KEf.ref k38)).1
  refine p_bd (Q := CL e) (fun s255 h255 => ?_)
  have k255 : KEf e s229 s255 := by rw [h255]; exact ke_X3_take he r229
  exact KEf.cl k255 c229
theorem kb_ne {s : ST} {a : Int} : f_X3_kindBegunBy s a ≠ 1 := by
  unfold f_X3_kindBegunBy
  refine p_if (Q := fun z : Int => z ≠ 1) (fun _ => by decide) (fun _ => ?_)
  refine p_if (Q := fun z : Int => z ≠ 1) (fun _ => by decide) (fun _ => ?_)
  refine p_if (Q := fun z : Int => z ≠ 1) (fun _ => by decide) (fun _ => ?_)
  refine p_if (Q := fun z : Int => z ≠ 1) (fun _ => by decide) (fun _ => ?_)
  refine p_bd (Q := fun z : Int => z ≠ 1) (fun v _ => ?_)
  exact p_if (Q := fun z : Int => z ≠ 1) (fun _ => by decide) (fun _ => by decide)
theorem cl_X3_readStatement {e : Nat} (he : e = 2 ∨ e = 18) {s : ST} (hs : s.2.2 34 4 = e) {a2 : Int} (cl : CL e s) : CL e (f_X3_readStatement s a2) := by
  unfold f_X3_readStatement
  have ks : KEf e s s := KEf.rfl hs
  refine p_bd (Q := CL e) (fun u34_2 _ => ?_)
  refine p_bd (Q := CL e) (fun u34_7 _ => ?_)
  refine p_bd (Q := CL e) (fun v7 h7 => ?_)
  refine p_if (Q := CL e) (fun _ => ?_) (fun _ => ?_)
  · refine p_bd (Q := CL e) (fun c11 h11 => ?_)
    have e11 : c11 = e := by rw [h11]; exact hs
    refine p_bd (Q := CL e) (fun v13 h13 => ?_)
    refine p_if (Q := CL e) (fun lt => ?_) (fun _ => ?_)
    · refine p_bd (Q := CL e) (fun c17 h17 => ?_)
      have e17 : c17 = e := by rw [h17]; exact hs
      refine p_bd (Q := CL e) (fun c19 h19 => ?_)
      refine p_bd (Q := CL e) (fun v21 h21 => ?_)
      refine p_bd2 (Q := CL e) (fun s35 v46 h35 => ?_)
      have lt2 : s.1 e 0 < 40 := by rw [h13, e11] at lt; exact lt
      have ad := cl_add he (a3 := v21 - 1) (a4 := u34_7 - 1) (a5 := u34_2) cl lt2 (show v7 ≠ 1 by rw [h7]; exact kb_ne)
      have kd : KDp e s (f_X0_add s c17 v7 (v21 - 1) (u34_7 - 1) u34_2) := kd_X0_add he hs e17
      rw [e17] at h35 kd
      rw [← h35] at ad kd
      have c35 : CL e s35 := ad.1
      have v46e : v46 = s.1 e 0 := ad.2.1
      have n35 : s35.1 e 0 = s.1 e 0 + 1 := ad.2.2
      have r35 : s35.2.2 34 4 = e := kd.1
      have k35 : KEf e s35 s35 := KEf.rfl r35
      refine p_bd2 (Q := CL e) (fun s58 v64 h58 => ?_)
      have k58 : KEf e s35 s58 := KEf.tr k35 (by have z : KEfp e s35 (f_X3_addItem s35 v46) := ke_X3_addItem he r35; rw [← h58] at z; exact z)
      refine p_bd (Q := CL e) (fun u66 _ => ?_)
      refine p_bd (Q := CL e) (fun s73 h73 => ?_)
      have k73 : KEf e s35 s73 := by rw [h73]; exact KEf.I k58 (by omega) (by omega) (by omega) (by omega)
      refine p_if (Q := CL e) (fun _ => ?_) (fun _ => ?_)
      · have cond : CL e (bd (f_X3_readCondition s73 v46 v64) fun s85 => s85) := by
          refine p_bd (Q := CL e) (fun s85 h85 => ?_)
          have k85 : KEf e s35 s85 := KEf.tr k73 (by rw [h85]; exact ke_X3_readCondition he (KEf.ref k73))
          exact KEf.cl k85 c35
        refine p_if (Q := CL e) (fun _ => cond) (fun _ => ?_)
        refine p_if (Q := CL e) (fun _ => ?_) (fun _ => cond)
        refine p_bd (Q := CL e) (fun c96 h96 => ?_)
        have e96 : c96 = e := by rw [h96]; exact KEf.ref k73
        refine p_bd2 (Q := CL e) (fun s104 v109 h104 => ?_)
        have k104 : KEf e s35 s104 := KEf.tr k73 (by have z : KEfp e s73 (f_X3_readOperand s73) := ke_X3_readOperand he (KEf.ref k73); rw [← h104] at z; exact z)
        refine p_bd (Q := CL e) (fun s115 h115 => ?_)
        have k115 : KEf e s35 s115 := by rw [h115]; exact KEf.I k104 (by omega) (by omega) (by omega) (by omega)
        refine p_bd (Q := CL e) (fun s123 h123 => ?_)
        have k123 : KEf e s35 s123 := KEf.tr k115 (by rw [h123]; exact ke_X3_take he (KEf.ref k115))
        exact KEf.cl k123 c35
      · refine p_bd (Q := CL e) (fun v152 _ => ?_)
        refine p_bd (Q := CL e) (fun s160 h160 => ?_)
        rw [h160]
        have l0 := cl.1
        exact cl_X3_readAssignment he (KEf.ref k73) (KEf.cl k73 c35) (by omega) (by rw [k73.2.1]; omega)
    · refine p_bd (Q := CL e) (fun s183 h183 => ?_)
      have k183 : KEf e s s183 := by rw [h183]; exact ke_X3_blame he hs
      exact KEf.cl k183 cl
  · refine p_bd (Q := CL e) (fun s203 h203 => ?_)
    have k203 : KEf e s s203 := by rw [h203]; exact ke_X3_blame he hs
    exact KEf.cl k203 cl
theorem cl_clear {s : ST} {c : Nat} : (f_X0_clear s c).1 c 0 = 0 ∧ (f_X0_clear s c).2.1 c 2 = 0 := by
  have e : f_X0_clear s c = sI (sI (sL (sI (sI s c 0 0) c 1 0) c 2 0) c 3 0) c 4 0 := rfl
  rw [e]
  refine ⟨?_, ?_⟩
  · rw [sI_ne (show ¬ (c = c ∧ (0 : Nat) = 4) by omega), sI_ne (show ¬ (c = c ∧ (0 : Nat) = 3) by omega)]
    show (sI (sI s c 0 0) c 1 0).1 c 0 = 0
    rw [sI_ne (show ¬ (c = c ∧ (0 : Nat) = 1) by omega), sI_eq]
  · show (if c = c ∧ 2 = 2 then (0 : Int64) else s.2.1 c 2) = 0
    rw [if_pos ⟨rfl, rfl⟩]
theorem cl_X3_start {e : Nat} (he : e = 2 ∨ e = 18) {s : ST} {a3 : Int} : CL e (f_X3_start s a3 e) := by
  unfold f_X3_start
  refine p_bd (Q := CL e) (fun s1 _ => ?_)
  refine p_bd (Q := CL e) (fun v3 _ => ?_)
  refine p_bd (Q := CL e) (fun s7 _ => ?_)
  refine p_bd (Q := CL e) (fun s9 _ => ?_)
  refine p_bd (Q := CL e) (fun s11 _ => ?_)
  refine p_bd (Q := CL e) (fun s13 h13 => ?_)
  refine p_bd (Q := CL e) (fun c15 h15 => ?_)
  have e15 : c15 = e := by
    rw [h15, h13]
    show (if 34 = 34 ∧ 4 = 4 then e else s11.2.2 34 4) = e
    rw [if_pos ⟨rfl, rfl⟩]
  refine p_bd (Q := CL e) (fun s17 h17 => ?_)
  rw [e15] at h17
  refine p_bd (Q := CL e) (fun s24 h24 => ?_)
  refine p_bd (Q := CL e) (fun s26 h26 => ?_)
  have cc := cl_clear (s := s13) (c := e)
  rw [← h17] at cc
  have n0 : s26.1 e 0 = 0 := by rw [h26, sI_nc (show e ≠ 34 by omega), h24, sI_nc (show e ≠ 36 by omega)]; exact cc.1
  have nl : s26.2.1 e 2 = 0 := by rw [h26, h24]; exact cc.2
  refine ⟨by omega, by omega, fun k k0 k1 => absurd k1 (by omega), fun k k0 k1 => ?_⟩
  rw [nl]
  exact ⟨fun z => absurd z bt_zero, fun z => absurd z.1 (by omega)⟩
theorem cl_X3_read_ {e : Nat} (he : e = 2 ∨ e = 18) : ∀ (n lab : Nat) (l4 : Int) (sx : ST), sx.2.2 34 4 = e → CL e sx → CLp e (f_X3_read_ n lab l4 sx) := by
  intro n
  induction n with
  | zero =>
    intro lab l4 sx hs cl
    rw [f_X3_read_]
    exact cl
  | succ n ih =>
    intro lab l4 sx hs cl
    rw [f_X3_read_]
    have ksx : KEf e sx sx := KEf.rfl hs
    have fin : ∀ u : ST, KEf e sx u → CLp e (bd (f_X3_finish u) fun s9 => bd (s9.1 34 3) fun u15 => (s9, u15)) := fun u ku => by
      refine p_bd (Q := CLp e) (fun s9 h9 => ?_)
      have k9 : KEf e sx s9 := KEf.tr ku (by rw [h9]; exact ke_X3_finish he (KEf.ref ku))
      refine p_bd (Q := CLp e) (fun u15 _ => ?_)
      exact KEf.cl k9 cl
    refine p_if (Q := CLp e) (fun _ => fin sx ksx) (fun _ => ?_)
    refine p_bd (Q := CLp e) (fun v21 _ => ?_)
    refine p_if (Q := CLp e) (fun _ => fin sx ksx) (fun _ => ?_)
    refine p_bd2 (Q := CLp e) (fun s52 v58 h52 => ?_)
    have k52 : KEf e sx s52 := KEf.tr ksx (by have z : KEfp e sx (f_X3_look sx) := ke_X3_look he hs; rw [← h52] at z; exact z)
    have r52 := KEf.ref k52
    have c52 := KEf.cl k52 cl
    refine p_bd (Q := CLp e) (fun u64 _ => ?_)
    refine p_if (Q := CLp e) (fun _ => ?_) (fun _ => ?_)
    · refine p_if (Q := CLp e) (fun _ => ?_) (fun _ => ?_)
      · refine p_if (Q := CLp e) (fun _ => ?_) (fun _ => ?_)
        · refine p_bd (Q := CLp e) (fun s84 h84 => ?_)
          exact ih _ _ s84 (by rw [h84]; exact (kd_X3_readStatement he r52).1) (by rw [h84]; exact cl_X3_readStatement he r52 c52)
        · refine p_bd (Q := CLp e) (fun s121 h121 => ?_)
          have k121 : KEf e s52 s121 := by rw [h121]; exact ke_X3_readTry he r52
          exact ih _ _ s121 (KEf.ref k121) (KEf.cl k121 c52)
      · refine p_bd (Q := CLp e) (fun s153 h153 => ?_)
        have k153 : KEf e s52 s153 := by rw [h153]; exact ke_X3_closeBlock he r52
        exact ih _ _ s153 (KEf.ref k153) (KEf.cl k153 c52)
    · refine p_if (Q := CLp e) (fun _ => ?_) (fun _ => fin s52 k52)
      refine p_bd (Q := CLp e) (fun s189 h189 => ?_)
      have k189 : KEf e s52 s189 := by rw [h189]; exact ke_X3_readProcedure he r52
      exact ih _ _ s189 (KEf.ref k189) (KEf.cl k189 c52)
theorem cl_X3_read {e : Nat} (he : e = 2 ∨ e = 18) {s : ST} {a3 : Int} : CLp e (f_X3_read s a3 e) := by
  unfold f_X3_read
  refine p_bd (Q := CLp e) (fun s239 h => ?_)
  have c239 : CL e s239 := by rw [h]; exact cl_X3_start he
  have r239 : s239.2.2 34 4 = e := by rw [h]; exact (kd_X3_start he rfl).1
  refine p_bd (Q := CLp e) (fun s258 h2 => ?_)
  have k258 : KEf e s239 s258 := by rw [h2]; exact ke_X3_readProcedure he r239
  exact cl_X3_read_ he 1522 14 0 s258 (KEf.ref k258) (KEf.cl k258 c239)

