/-! the reference's questions about ways, beside the class's code -/
/-- ints stay but what the reference lays behind its ways -/
def RS (F : Nat → Nat → Int) (s : ST) : Prop := ∀ q j, q ≠ 103 → q ≠ 108 → q ≠ 109 → q ≠ 110 → ¬ (q = 70 ∧ j = 47) → s.1 q j = F q j
theorem RS.g {F : Nat → Nat → Int} {s : ST} (h : RS F s) {q j : Nat} (hq : q < 70 ∨ (70 < q ∧ q < 103) ∨ (q = 70 ∧ j ≠ 47)) : s.1 q j = F q j := h q j (by omega) (by omega) (by omega) (by omega) (by omega)
def H01 (F : Nat → Nat → Int) : Prop := ∀ q j, q = 101 ∨ q = 102 → 0 ≤ F q j ∧ F q j ≤ 1
section W
variable {c : Nat} {S : Int} {F : Nat → Nat → Int} {s : ST}
theorem item_r (hr : RS F s) (hS : F 70 6 = S) (k : Int) : f_X8_item2 s k = F 93 (40 * S + k).toNat := by
  unfold f_X8_item2
  simp only [bd_r]
  rw [hr.g (q := 70) (by omega), hS, hr.g (by omega)]
theorem kind_r8 (hr : RS F s) (hS : F 70 6 = S) (b : BRI c S F) {k : Int} (k0 : 0 ≤ k) (k1 : k < F c 0) : f_X8_kindAt2 s k = F (c + 2) k.toNat := by
  unfold f_X8_kindAt2
  simp only [bd_r]
  rw [item_r hr hS, hr.g (by omega)]
  exact (b.2.2.2.2.2.1 k k0 k1).2.1
theorem own_r8 (hr : RS F s) (hS : F 70 6 = S) (b : BRI c S F) {k : Int} (k0 : 0 ≤ k) (k1 : k < F c 0) : f_X8_procedureOf2 s k = F (c + 3) k.toNat := by
  unfold f_X8_procedureOf2
  simp only [bd_r]
  rw [item_r hr hS, hr.g (by omega)]
  exact (b.2.2.2.2.2.1 k k0 k1).2.2.1
theorem ret_r8 (hr : RS F s) (hS : F 70 6 = S) (b : BRI c S F) (h01 : H01 F) {k : Int} (k0 : 0 ≤ k) (k1 : k < F c 0) : f_X8_isReturning_x2 s k = 0 ↔ ¬ (F (c + 2) k.toNat = 1 ∧ FB (F c 3) (F (c + 7) k.toNat)) := by
  unfold f_X8_isReturning_x2
  simp only [bd_r]
  rw [kind_r8 hr hS b k0 k1]
  by_cases z : F (c + 2) k.toNat = 1
  · have br := b.2.2.2.2.2.1 k k0 k1
    have ca := (b.2.2.2.2.1.2.2.2.2.1 k k0 k1).2.1 z
    rw [if_neg (fun y => y z), hr.g (q := 70) (j := 6) (by omega), hS, item_r hr hS, hr.g (q := 84) (by omega), br.2.2.2.2.1, hr.g (by omega)]
    have fl := (b.2.2.2.2.2.2.1 _ ca.1 ca.2).2.2.2.1
    have v := h01 101 (5 * S + F (c + 7) k.toNat).toNat (by omega)
    by_cases y : F 101 (5 * S + F (c + 7) k.toNat).toNat = 0
    · rw [if_pos y]
      exact ⟨fun _ w => by have := fl.mp w.2; omega, fun _ => rfl⟩
    · rw [if_neg y]
      exact ⟨fun w => absurd w (by decide), fun w => absurd ⟨z, fl.mpr (by omega)⟩ w⟩
  · rw [if_pos z]
    exact ⟨fun _ w => z w.1, fun _ => rfl⟩
theorem thr_r8 (hr : RS F s) (hS : F 70 6 = S) (b : BRI c S F) (h01 : H01 F) {k : Int} (k0 : 0 ≤ k) (k1 : k < F c 0) : f_X8_isThrowing_x2 s k = 0 ↔ ¬ (F (c + 2) k.toNat = 1 ∧ FB (F c 4) (F (c + 7) k.toNat)) := by
  unfold f_X8_isThrowing_x2
  simp only [bd_r]
  rw [kind_r8 hr hS b k0 k1]
  by_cases z : F (c + 2) k.toNat = 1
  · have br := b.2.2.2.2.2.1 k k0 k1
    have ca := (b.2.2.2.2.1.2.2.2.2.1 k k0 k1).2.1 z
    rw [if_neg (fun y => y z), hr.g (q := 70) (j := 6) (by omega), hS, item_r hr hS, hr.g (q := 84) (by omega), br.2.2.2.2.1, hr.g (by omega)]
    have fl := (b.2.2.2.2.2.2.1 _ ca.1 ca.2).2.2.2.2
    have v := h01 102 (5 * S + F (c + 7) k.toNat).toNat (by omega)
    by_cases y : F 102 (5 * S + F (c + 7) k.toNat).toNat = 0
    · rw [if_pos y]
      exact ⟨fun _ w => by have := fl.mp w.2; omega, fun _ => rfl⟩
    · rw [if_neg y]
      exact ⟨fun w => absurd w (by decide), fun w => absurd ⟨z, fl.mpr (by omega)⟩ w⟩
  · rw [if_pos z]
    exact ⟨fun _ w => z w.1, fun _ => rfl⟩
theorem thx_e (s : ST) (k : Int) : f_X8_isThrowing2 s k = f_X8_isThrowing_x2 s k := rfl
/-- a way, by the kind of its statement -/
noncomputable def rW (c : Nat) (S : Int) (F : Nat → Nat → Int) (k e : Int) : Int := if F (c + 2) k.toNat = 0 then (if e = 0 then F 95 (40 * S + k).toNat else -2) else if F (c + 2) k.toNat = 1 then (if e = 0 then (if cq (FB (F c 3) (F (c + 7) k.toNat)) = 0 then -2 else F 95 (40 * S + k).toNat) else (if cq (FB (F c 4) (F (c + 7) k.toNat)) = 0 then -2 else F 98 (40 * S + k).toNat)) else if F (c + 2) k.toNat = 2 then (if e = 0 then F 96 (40 * S + k).toNat else F 97 (40 * S + k).toNat) else if F (c + 2) k.toNat = 3 then (if e = 0 then F 96 (40 * S + k).toNat else F 95 (40 * S + k).toNat) else if F (c + 2) k.toNat = 4 then (if e = 0 then -2 else F 98 (40 * S + k).toNat) else (if e = 0 then -1 else -2)
theorem cq_iff {P : Prop} : cq P = 0 ↔ ¬ P := by
  rcases Classical.em P with h | h
  · rw [cq_1 h]; exact ⟨fun z => absurd z (by decide), fun z => absurd h z⟩
  · rw [cq_0 h]; exact ⟨fun _ => h, fun _ => rfl⟩
theorem way_r8 (hr : RS F s) (hS : F 70 6 = S) (b : BRI c S F) (h01 : H01 F) {k e : Int} (k0 : 0 ≤ k) (k1 : k < F c 0) : f_X8_way_x2 s k e = rW c S F k e := by
  unfold f_X8_way_x2 rW
  simp only [bd_r]
  rw [kind_r8 hr hS b k0 k1, hr.g (q := 70) (j := 6) (by omega), hS, hr.g (q := 95) (by omega), hr.g (q := 96) (by omega), hr.g (q := 97) (by omega), hr.g (q := 98) (by omega)]
  have rt := ret_r8 hr hS b h01 k0 k1
  have th := thr_r8 hr hS b h01 k0 k1
  by_cases z0 : F (c + 2) k.toNat = 0
  · rw [if_pos z0, if_pos z0]
    by_cases y : e = 0
    · rw [if_neg (fun w => w y), if_pos y]
    · rw [if_pos y, if_neg y]
  · rw [if_neg z0, if_neg z0]
    by_cases z1 : F (c + 2) k.toNat = 1
    · rw [if_pos z1, if_pos z1]
      by_cases y : e = 0
      · rw [if_neg (fun w => w y), if_pos y]
        by_cases x : f_X8_isReturning_x2 s k = 0
        · rw [if_pos x, if_pos (cq_iff.mpr (fun w => rt.mp x ⟨z1, w⟩))]
        · rw [if_neg x, if_neg (fun w => x (rt.mpr (fun v => cq_iff.mp w v.2)))]
      · rw [if_pos y, if_neg y]
        by_cases x : f_X8_isThrowing_x2 s k = 0
        · rw [if_pos x, if_pos (cq_iff.mpr (fun w => th.mp x ⟨z1, w⟩))]
        · rw [if_neg x, if_neg (fun w => x (th.mpr (fun v => cq_iff.mp w v.2)))]
    · rw [if_neg z1, if_neg z1]
      by_cases z2 : F (c + 2) k.toNat = 2
      · rw [if_pos z2, if_pos z2]
        by_cases y : e = 0
        · rw [if_neg (fun w => w y), if_pos y]
        · rw [if_pos y, if_neg y]
      · rw [if_neg z2, if_neg z2]
        by_cases z3 : F (c + 2) k.toNat = 3
        · rw [if_pos z3, if_pos z3]
          by_cases y : e = 0
          · rw [if_neg (fun w => w y), if_pos y]
          · rw [if_pos y, if_neg y]
        · rw [if_neg z3, if_neg z3]
          by_cases z4 : F (c + 2) k.toNat = 4
          · rw [if_pos z4, if_pos z4]
            by_cases y : e = 0
            · rw [if_neg (fun w => w y), if_pos y]
            · rw [if_pos y, if_neg y]
          · rw [if_neg z4, if_neg z4]
            by_cases y : e = 0
            · rw [if_neg (fun w => w y), if_pos y]
            · rw [if_pos y, if_neg y]
/-- by what place a statement tells a name, by the kind of the statement -/
noncomputable def rT (c : Nat) (F : Nat → Nat → Int) (nm k e : Int) : Int := if F (c + 2) k.toNat = 0 then (if F (c + 6) k.toNat = nm then 13 * k else -1) else if F (c + 2) k.toNat = 1 then (if nm < 6 then (if e = 0 then (if F (c + 6) k.toNat = nm then 13 * k + 7 else -1) else (if F (c + 14) k.toNat = nm then 13 * k + 7 else -1)) else 13 * k + 7 + (nm - 4)) else if F (c + 2) k.toNat = 4 then (if F (c + 14) k.toNat = nm then 13 * k else -1) else -1
theorem tells_r8 (hr : RS F s) (hS : F 70 6 = S) (b : BRI c S F) {k e nm : Int} (k0 : 0 ≤ k) (k1 : k < F c 0) : f_X8_tells2 s k e nm = rT c F nm k e := by
  have br := b.2.2.2.2.2.1 k k0 k1
  unfold f_X8_tells2 rT f_X8_statementPlace2
  simp only [bd_r]
  rw [item_r hr hS, hr.g (q := 70) (j := 6) (by omega), hS, hr.g (q := 99) (by omega), hr.g (q := 77) (by omega), hr.g (q := 82) (by omega), br.2.1, br.2.2.2.1, br.2.2.2.2.2.2.2.2.1]
  by_cases z0 : F (c + 2) k.toNat = 0
  · rw [if_pos z0, if_pos z0]
    by_cases y : F (c + 6) k.toNat = nm
    · rw [if_neg (fun w => w y), if_pos y]; omega
    · rw [if_pos y, if_neg y]
  · rw [if_neg z0, if_neg z0]
    by_cases z1 : F (c + 2) k.toNat = 1
    · rw [if_pos z1, if_pos z1]
      by_cases z6 : nm < 6
      · rw [if_pos z6, if_pos z6]
        by_cases ye : e = 0
        · rw [if_neg (fun w => w ye), if_pos ye]
          by_cases y : F (c + 6) k.toNat = nm
          · rw [if_neg (fun w => w y), if_pos y]
          · rw [if_pos y, if_neg y]
        · rw [if_pos ye, if_neg ye]
          by_cases y : F (c + 14) k.toNat = nm
          · rw [if_neg (fun w => w y), if_pos y]
          · rw [if_pos y, if_neg y]
      · rw [if_neg z6, if_neg z6]; omega
    · rw [if_neg z1, if_neg z1]
      by_cases z2 : F (c + 2) k.toNat = 2
      · rw [if_pos z2, if_neg (show ¬ F (c + 2) k.toNat = 4 by omega)]
      · rw [if_neg z2]
        by_cases z3 : F (c + 2) k.toNat = 3
        · rw [if_pos z3, if_neg (show ¬ F (c + 2) k.toNat = 4 by omega)]
        · rw [if_neg z3]
          by_cases z4 : F (c + 2) k.toNat = 4
          · rw [if_pos z4, if_pos z4]
            by_cases y : F (c + 14) k.toNat = nm
            · rw [if_neg (fun w => w y), if_pos y]; omega
            · rw [if_pos y, if_neg y]
          · rw [if_neg z4, if_neg z4]
/-- told, or not -/
def TLs (c : Nat) (F : Nat → Nat → Int) (nm k : Int) (Tl : Prop) (v : Int) : Prop := (Tl ∧ v = pT c F nm k) ∨ (¬ Tl ∧ v = -1)
theorem pT_k {nm k : Int} (h : k < 40) : pT c F nm k = if F (c + 2) k.toNat = 1 then 13 * k + 7 + (if nm < 6 then 0 else nm - 4) else 13 * k := if_pos h
theorem rW0 {k e : Int} (z : F (c + 2) k.toNat = 0) : rW c S F k e = if e = 0 then F 95 (40 * S + k).toNat else -2 := by
  unfold rW
  rw [if_pos z]
theorem rW1 {k e : Int} (z : F (c + 2) k.toNat = 1) : rW c S F k e = if e = 0 then (if cq (FB (F c 3) (F (c + 7) k.toNat)) = 0 then -2 else F 95 (40 * S + k).toNat) else (if cq (FB (F c 4) (F (c + 7) k.toNat)) = 0 then -2 else F 98 (40 * S + k).toNat) := by
  unfold rW
  rw [if_neg (show ¬ F (c + 2) k.toNat = 0 by omega), if_pos z]
theorem rW2 {k e : Int} (z : F (c + 2) k.toNat = 2) : rW c S F k e = if e = 0 then F 96 (40 * S + k).toNat else F 97 (40 * S + k).toNat := by
  unfold rW
  rw [if_neg (show ¬ F (c + 2) k.toNat = 0 by omega), if_neg (show ¬ F (c + 2) k.toNat = 1 by omega), if_pos z]
theorem rW3 {k e : Int} (z : F (c + 2) k.toNat = 3) : rW c S F k e = if e = 0 then F 96 (40 * S + k).toNat else F 95 (40 * S + k).toNat := by
  unfold rW
  rw [if_neg (show ¬ F (c + 2) k.toNat = 0 by omega), if_neg (show ¬ F (c + 2) k.toNat = 1 by omega), if_neg (show ¬ F (c + 2) k.toNat = 2 by omega), if_pos z]
theorem rW4 {k e : Int} (z : F (c + 2) k.toNat = 4) : rW c S F k e = if e = 0 then -2 else F 98 (40 * S + k).toNat := by
  unfold rW
  rw [if_neg (show ¬ F (c + 2) k.toNat = 0 by omega), if_neg (show ¬ F (c + 2) k.toNat = 1 by omega), if_neg (show ¬ F (c + 2) k.toNat = 2 by omega), if_neg (show ¬ F (c + 2) k.toNat = 3 by omega), if_pos z]
theorem rW5 {k e : Int} (z : F (c + 2) k.toNat = 5) : rW c S F k e = if e = 0 then -1 else -2 := by
  unfold rW
  rw [if_neg (show ¬ F (c + 2) k.toNat = 0 by omega), if_neg (show ¬ F (c + 2) k.toNat = 1 by omega), if_neg (show ¬ F (c + 2) k.toNat = 2 by omega), if_neg (show ¬ F (c + 2) k.toNat = 3 by omega), if_neg (show ¬ F (c + 2) k.toNat = 4 by omega)]
theorem rT0 {k e nm : Int} (z : F (c + 2) k.toNat = 0) : rT c F nm k e = if F (c + 6) k.toNat = nm then 13 * k else -1 := by
  unfold rT
  rw [if_pos z]
theorem rT1 {k e nm : Int} (z : F (c + 2) k.toNat = 1) : rT c F nm k e = if nm < 6 then (if e = 0 then (if F (c + 6) k.toNat = nm then 13 * k + 7 else -1) else (if F (c + 14) k.toNat = nm then 13 * k + 7 else -1)) else 13 * k + 7 + (nm - 4) := by
  unfold rT
  rw [if_neg (show ¬ F (c + 2) k.toNat = 0 by omega), if_pos z]
theorem rT4 {k e nm : Int} (z : F (c + 2) k.toNat = 4) : rT c F nm k e = if F (c + 14) k.toNat = nm then 13 * k else -1 := by
  unfold rT
  rw [if_neg (show ¬ F (c + 2) k.toNat = 0 by omega), if_neg (show ¬ F (c + 2) k.toNat = 1 by omega), if_pos z]
theorem rTn {k e nm : Int} (z : F (c + 2) k.toNat = 2 ∨ F (c + 2) k.toNat = 3 ∨ F (c + 2) k.toNat = 5) : rT c F nm k e = -1 := by
  unfold rT
  rw [if_neg (show ¬ F (c + 2) k.toNat = 0 by omega), if_neg (show ¬ F (c + 2) k.toNat = 1 by omega), if_neg (show ¬ F (c + 2) k.toNat = 4 by omega)]
theorem pT0 {k nm : Int} (h : k < 40) (z : ¬ F (c + 2) k.toNat = 1) : pT c F nm k = 13 * k := by
  rw [pT_k h, if_neg z]
theorem pT1 {k nm : Int} (h : k < 40) (z : F (c + 2) k.toNat = 1) : pT c F nm k = 13 * k + 7 + (if nm < 6 then 0 else nm - 4) := by
  rw [pT_k h, if_pos z]
/-- what is told, by kind and way -/
theorem tls_0 {k nm : Int} (h : k < 40) (z : F (c + 2) k.toNat = 0) : TLs c F nm k (cTS c F nm k) (rT c F nm k 0) := by
  unfold TLs cTS
  rw [rT0 z, pT0 h (by omega)]
  by_cases y : F (c + 6) k.toNat = nm
  · rw [if_pos y]; exact Or.inl ⟨Or.inr y, rfl⟩
  · rw [if_neg y]; exact Or.inr ⟨fun w => by rcases w with w | w; (omega); (exact y w), rfl⟩
theorem tls_1s {k nm : Int} (h : k < 40) (z : F (c + 2) k.toNat = 1) : TLs c F nm k (cTS c F nm k) (rT c F nm k 0) := by
  unfold TLs cTS
  rw [rT1 z, pT1 h z]
  by_cases n6 : nm < 6
  · rw [if_pos n6, if_pos n6, if_pos (rfl : (0 : Int) = 0)]
    by_cases y : F (c + 6) k.toNat = nm
    · rw [if_pos y]; exact Or.inl ⟨Or.inr y, by omega⟩
    · rw [if_neg y]; exact Or.inr ⟨fun w => by rcases w with w | w; (omega); (exact y w), rfl⟩
  · rw [if_neg n6, if_neg n6]; exact Or.inl ⟨Or.inl ⟨z, by omega⟩, rfl⟩
theorem tls_1a {k nm : Int} (h : k < 40) (z : F (c + 2) k.toNat = 1) : TLs c F nm k (cTA c F nm k) (rT c F nm k 1) := by
  unfold TLs cTA
  rw [rT1 z, pT1 h z]
  by_cases n6 : nm < 6
  · rw [if_pos n6, if_pos n6, if_neg (show ¬ (1 : Int) = 0 by decide)]
    by_cases y : F (c + 14) k.toNat = nm
    · rw [if_pos y]; exact Or.inl ⟨Or.inr ⟨Or.inl z, y⟩, by omega⟩
    · rw [if_neg y]; exact Or.inr ⟨fun w => by rcases w with w | w; (omega); (exact y w.2), rfl⟩
  · rw [if_neg n6, if_neg n6]; exact Or.inl ⟨Or.inl ⟨z, by omega⟩, rfl⟩
theorem tls_ns {k nm e : Int} (n0 : 0 ≤ nm) (z : F (c + 2) k.toNat = 2 ∨ F (c + 2) k.toNat = 3 ∨ F (c + 2) k.toNat = 5) (n : F (c + 6) k.toNat = -1) : TLs c F nm k (cTS c F nm k) (rT c F nm k e) := by
  unfold TLs cTS
  rw [rTn z]
  exact Or.inr ⟨fun w => by rcases w with w | w <;> omega, rfl⟩
theorem tls_na {k nm e : Int} (z : F (c + 2) k.toNat = 2 ∨ F (c + 2) k.toNat = 3 ∨ F (c + 2) k.toNat = 5) : TLs c F nm k (cTA c F nm k) (rT c F nm k e) := by
  unfold TLs cTA
  rw [rTn z]
  exact Or.inr ⟨fun w => by rcases w with w | w; (omega); (rcases w.1 with v | v <;> omega), rfl⟩
theorem tls_4 {k nm e : Int} (h : k < 40) (z : F (c + 2) k.toNat = 4) : TLs c F nm k (cTA c F nm k) (rT c F nm k e) := by
  unfold TLs cTA
  rw [rT4 z, pT0 h (by omega)]
  by_cases y : F (c + 14) k.toNat = nm
  · rw [if_pos y]; exact Or.inl ⟨Or.inr ⟨Or.inr z, y⟩, rfl⟩
  · rw [if_neg y]; exact Or.inr ⟨fun w => by rcases w with w | w; (omega); (exact y w.2), rfl⟩
theorem gs_n {k : Int} (z : F (c + 2) k.toNat = 0 ∨ F (c + 2) k.toNat = 2 ∨ F (c + 2) k.toNat = 3) : cGS c F k := Or.inr ⟨by omega, by omega, by omega⟩
theorem de_n {k : Int} (z : F (c + 2) k.toNat = 2 ∨ F (c + 2) k.toNat = 3 ∨ F (c + 2) k.toNat = 4 ∨ F (c + 2) k.toNat = 5) : cDE c F k := Or.inr ⟨by omega, by omega⟩
/-- each way of the reference is one of the class -/
theorem edge_r (b : BRI c S F) {k e nm : Int} (k0 : 0 ≤ k) (k1 : k < F c 0) (he : e = 0 ∨ e = 1) (n0 : 0 ≤ nm) : rW c S F k e = -2 ∨ (-1 ≤ rW c S F k e ∧ rW c S F k e < F c 0 ∧ ((cGS c F k ∧ F (c + 12) k.toNat = en (F (c + 3) k.toNat) (rW c S F k e) ∧ TLs c F nm k (cTS c F nm k) (rT c F nm k e)) ∨ (cDE c F k ∧ F (c + 13) k.toNat = en (F (c + 3) k.toNat) (rW c S F k e) ∧ TLs c F nm k (cTA c F nm k) (rT c F nm k e)))) := by
  obtain ⟨_, _, _, _, _, _, _, _, _, kn, _, _, r95, r97, r98, r96, s12, s13, _⟩ := b.2.2.2.2.2.1 k k0 k1
  have kd := (b.2.2.2.2.1.2.2.2.2.1 k k0 k1).1
  have k40 := b.2.2.2.2.1.1
  have lt : k < 40 := by omega
  have c06 : F (c + 2) k.toNat = 0 ∨ F (c + 2) k.toNat = 1 ∨ F (c + 2) k.toNat = 2 ∨ F (c + 2) k.toNat = 3 ∨ F (c + 2) k.toNat = 4 ∨ F (c + 2) k.toNat = 5 := by omega
  have e10 : ¬ (1 : Int) = 0 := by decide
  rcases c06 with z | z | z | z | z | z
  · rw [if_neg (show ¬ F (c + 2) k.toNat = 2 by omega)] at s12
    rcases he with rfl | rfl
    · rw [rW0 z, if_pos rfl]
      exact Or.inr ⟨r95.1, r95.2, Or.inl ⟨gs_n (Or.inl z), s12, tls_0 lt z⟩⟩
    · rw [rW0 z, if_neg e10]; exact Or.inl rfl
  · rw [if_neg (show ¬ F (c + 2) k.toNat = 2 by omega)] at s12
    rw [if_neg (show ¬ F (c + 2) k.toNat = 5 by omega), if_neg (show ¬ (F (c + 2) k.toNat = 2 ∨ F (c + 2) k.toNat = 3) by omega)] at s13
    rcases he with rfl | rfl
    · rw [rW1 z, if_pos rfl]
      by_cases y : cq (FB (F c 3) (F (c + 7) k.toNat)) = 0
      · rw [if_pos y]; exact Or.inl rfl
      · rw [if_neg y]
        exact Or.inr ⟨r95.1, r95.2, Or.inl ⟨Or.inl ⟨z, Classical.byContradiction (fun w => y (cq_iff.mpr w))⟩, s12, tls_1s lt z⟩⟩
    · rw [rW1 z, if_neg e10]
      by_cases y : cq (FB (F c 4) (F (c + 7) k.toNat)) = 0
      · rw [if_pos y]; exact Or.inl rfl
      · rw [if_neg y]
        exact Or.inr ⟨r98.1, r98.2, Or.inr ⟨Or.inl ⟨z, Classical.byContradiction (fun w => y (cq_iff.mpr w))⟩, s13, tls_1a lt z⟩⟩
  · have n6 : F (c + 6) k.toNat = -1 := by rcases kn with w | w | w <;> omega
    have r := r96 (Or.inl z)
    rw [if_pos z] at s12
    rw [if_neg (show ¬ F (c + 2) k.toNat = 5 by omega), if_pos (Or.inl z)] at s13
    rcases he with rfl | rfl
    · rw [rW2 z, if_pos rfl]
      exact Or.inr ⟨r.1, r.2, Or.inr ⟨de_n (Or.inl z), s13, tls_na (Or.inl z)⟩⟩
    · rw [rW2 z, if_neg e10]
      exact Or.inr ⟨r97.1, r97.2, Or.inl ⟨gs_n (Or.inr (Or.inl z)), s12, tls_ns n0 (Or.inl z) n6⟩⟩
  · have n6 : F (c + 6) k.toNat = -1 := by rcases kn with w | w | w <;> omega
    have r := r96 (Or.inr z)
    rw [if_neg (show ¬ F (c + 2) k.toNat = 2 by omega)] at s12
    rw [if_neg (show ¬ F (c + 2) k.toNat = 5 by omega), if_pos (Or.inr z)] at s13
    rcases he with rfl | rfl
    · rw [rW3 z, if_pos rfl]
      exact Or.inr ⟨r.1, r.2, Or.inr ⟨de_n (Or.inr (Or.inl z)), s13, tls_na (Or.inr (Or.inl z))⟩⟩
    · rw [rW3 z, if_neg e10]
      exact Or.inr ⟨r95.1, r95.2, Or.inl ⟨gs_n (Or.inr (Or.inr z)), s12, tls_ns n0 (Or.inr (Or.inl z)) n6⟩⟩
  · rw [if_neg (show ¬ F (c + 2) k.toNat = 5 by omega), if_neg (show ¬ (F (c + 2) k.toNat = 2 ∨ F (c + 2) k.toNat = 3) by omega)] at s13
    rcases he with rfl | rfl
    · rw [rW4 z, if_pos rfl]; exact Or.inl rfl
    · rw [rW4 z, if_neg e10]
      exact Or.inr ⟨r98.1, r98.2, Or.inr ⟨de_n (Or.inr (Or.inr (Or.inl z))), s13, tls_4 lt z⟩⟩
  · rw [if_pos z] at s13
    rcases he with rfl | rfl
    · rw [rW5 z, if_pos rfl, en_1]
      exact Or.inr ⟨by decide, by omega, Or.inr ⟨de_n (Or.inr (Or.inr (Or.inr z))), s13, tls_na (Or.inr (Or.inr z))⟩⟩
    · rw [rW5 z, if_neg e10]; exact Or.inl rfl
/-- each way of the class is one of the reference -/
theorem class_way (b : BRI c S F) {k nm : Int} (k0 : 0 ≤ k) (k1 : k < F c 0) (n0 : 0 ≤ nm) : (cGS c F k → ∃ e, (e = 0 ∨ e = 1) ∧ rW c S F k e ≠ -2 ∧ F (c + 12) k.toNat = en (F (c + 3) k.toNat) (rW c S F k e) ∧ TLs c F nm k (cTS c F nm k) (rT c F nm k e)) ∧ (cDE c F k → ∃ e, (e = 0 ∨ e = 1) ∧ rW c S F k e ≠ -2 ∧ F (c + 13) k.toNat = en (F (c + 3) k.toNat) (rW c S F k e) ∧ TLs c F nm k (cTA c F nm k) (rT c F nm k e)) := by
  obtain ⟨_, _, _, _, _, _, _, _, _, kn, _, _, r95, r97, r98, r96, s12, s13, _⟩ := b.2.2.2.2.2.1 k k0 k1
  have kd := (b.2.2.2.2.1.2.2.2.2.1 k k0 k1).1
  have k40 := b.2.2.2.2.1.1
  have lt : k < 40 := by omega
  have c06 : F (c + 2) k.toNat = 0 ∨ F (c + 2) k.toNat = 1 ∨ F (c + 2) k.toNat = 2 ∨ F (c + 2) k.toNat = 3 ∨ F (c + 2) k.toNat = 4 ∨ F (c + 2) k.toNat = 5 := by omega
  have e10 : ¬ (1 : Int) = 0 := by decide
  rcases c06 with z | z | z | z | z | z
  · rw [if_neg (show ¬ F (c + 2) k.toNat = 2 by omega)] at s12
    refine ⟨fun _ => ⟨0, Or.inl rfl, ?_, ?_, tls_0 lt z⟩, fun g => ?_⟩
    · rw [rW0 z, if_pos rfl]; omega
    · rw [rW0 z, if_pos rfl]; exact s12
    · rcases g with g | g <;> omega
  · rw [if_neg (show ¬ F (c + 2) k.toNat = 2 by omega)] at s12
    rw [if_neg (show ¬ F (c + 2) k.toNat = 5 by omega), if_neg (show ¬ (F (c + 2) k.toNat = 2 ∨ F (c + 2) k.toNat = 3) by omega)] at s13
    refine ⟨fun g => ?_, fun g => ?_⟩
    · have fb : FB (F c 3) (F (c + 7) k.toNat) := by
        rcases g with g | g
        · exact g.2
        · exact absurd z g.1
      have y : ¬ cq (FB (F c 3) (F (c + 7) k.toNat)) = 0 := fun w => cq_iff.mp w fb
      refine ⟨0, Or.inl rfl, ?_, ?_, tls_1s lt z⟩
      · rw [rW1 z, if_pos rfl, if_neg y]; omega
      · rw [rW1 z, if_pos rfl, if_neg y]; exact s12
    · have fb : FB (F c 4) (F (c + 7) k.toNat) := by
        rcases g with g | g
        · exact g.2
        · exact absurd z g.1
      have y : ¬ cq (FB (F c 4) (F (c + 7) k.toNat)) = 0 := fun w => cq_iff.mp w fb
      refine ⟨1, Or.inr rfl, ?_, ?_, tls_1a lt z⟩
      · rw [rW1 z, if_neg e10, if_neg y]; omega
      · rw [rW1 z, if_neg e10, if_neg y]; exact s13
  · have n6 : F (c + 6) k.toNat = -1 := by rcases kn with w | w | w <;> omega
    have r := r96 (Or.inl z)
    rw [if_pos z] at s12
    rw [if_neg (show ¬ F (c + 2) k.toNat = 5 by omega), if_pos (Or.inl z)] at s13
    refine ⟨fun _ => ⟨1, Or.inr rfl, ?_, ?_, tls_ns n0 (Or.inl z) n6⟩, fun _ => ⟨0, Or.inl rfl, ?_, ?_, tls_na (Or.inl z)⟩⟩
    · rw [rW2 z, if_neg e10]; omega
    · rw [rW2 z, if_neg e10]; exact s12
    · rw [rW2 z, if_pos rfl]; omega
    · rw [rW2 z, if_pos rfl]; exact s13
  · have n6 : F (c + 6) k.toNat = -1 := by rcases kn with w | w | w <;> omega
    have r := r96 (Or.inr z)
    rw [if_neg (show ¬ F (c + 2) k.toNat = 2 by omega)] at s12
    rw [if_neg (show ¬ F (c + 2) k.toNat = 5 by omega), if_pos (Or.inr z)] at s13
    refine ⟨fun _ => ⟨1, Or.inr rfl, ?_, ?_, tls_ns n0 (Or.inr (Or.inl z)) n6⟩, fun _ => ⟨0, Or.inl rfl, ?_, ?_, tls_na (Or.inr (Or.inl z))⟩⟩
    · rw [rW3 z, if_neg e10]; omega
    · rw [rW3 z, if_neg e10]; exact s12
    · rw [rW3 z, if_pos rfl]; omega
    · rw [rW3 z, if_pos rfl]; exact s13
  · rw [if_neg (show ¬ F (c + 2) k.toNat = 5 by omega), if_neg (show ¬ (F (c + 2) k.toNat = 2 ∨ F (c + 2) k.toNat = 3) by omega)] at s13
    refine ⟨fun g => ?_, fun _ => ⟨1, Or.inr rfl, ?_, ?_, tls_4 lt z⟩⟩
    · rcases g with g | g <;> omega
    · rw [rW4 z, if_neg e10]; omega
    · rw [rW4 z, if_neg e10]; exact s13
  · rw [if_pos z] at s13
    refine ⟨fun g => ?_, fun _ => ⟨0, Or.inl rfl, ?_, ?_, tls_na (Or.inr (Or.inr z))⟩⟩
    · rcases g with g | g <;> omega
    · rw [rW5 z, if_pos rfl]; decide
    · rw [rW5 z, if_pos rfl, en_1]; exact s13
end W
