/-! the class's questions: what they answer, what they leave -/
/-- a row of bits, or none -/
def ROW (P : Prop) (Q : Int → Prop) (v : Int64) : Prop := (P → ∀ j, 0 ≤ j → (bt v j ↔ Q j)) ∧ (¬ P → v = -1)
theorem ROW.eq {P P' : Prop} {Q Q' : Int → Prop} {v w : Int64} (hp : P ↔ P') (hq : ∀ j, 0 ≤ j → (Q j ↔ Q' j)) (a : ROW P Q v) (b : ROW P' Q' w) : v = w := by
  by_cases z : P
  · exact bt_ext (fun j j0 _ => (a.1 z j j0).trans ((hq j j0).trans (b.1 (hp.mp z) j j0).symm))
  · rw [a.2 z, b.2 (fun y => z (hp.mpr y))]
section Q
variable {s : ST}
theorem isport_r {a : Int} : f_X7_isPort2 s a = 0 ↔ ¬ (0 ≤ a ∧ a < 6) := by
  unfold f_X7_isPort2
  by_cases z : a < 0
  · rw [if_pos z]
    exact ⟨fun _ w => by omega, fun _ => rfl⟩
  · rw [if_neg z]
    by_cases y : 6 ≤ a
    · rw [if_pos y]
      exact ⟨fun _ w => by omega, fun _ => rfl⟩
    · rw [if_neg y]
      exact ⟨fun w => absurd w (by decide), fun w => absurd ⟨by omega, by omega⟩ w⟩
/-- after a question for a slice the tables stand on -/
theorem RDY.eb {c : Nat} {F : Nat → Nat → Int} {s s' : ST} (hc : c = 2 ∨ c = 18) (e : EQB s s') (p : PRE2 c F s') (r : RDY c F s) : RDY c F s' := ⟨TBL.s (fun q j q1 q2 => e.2.1 q j (by omega) (by omega) (by omega) (by omega)) r.1, p⟩
theorem TXW.eb {s s' : ST} (hc : s.2.2 0 3 = 2 ∨ s.2.2 0 3 = 18) (e : EQB s s') (r : RDY (s.2.2 0 3) s.1 s') (t : TXW s) : TXW s' := by
  have e3 : s'.2.2 0 3 = s.2.2 0 3 := by rw [e.1]
  unfold TXW
  rw [e3]
  have F : EQF (s.2.2 0 3) s.1 s'.1 := fun q q1 q2 => funext fun j => e.2.2 q j (by omega) (by omega)
  exact ⟨t.1.cong (fun q j z => e.2.2 q j (by omega) (by omega)) (fun q j z => e.2.1 q j (by omega) (by omega) (by omega) (by omega)), Or.inr (RDY.cg F r)⟩
/-- from the made tables: back -/
theorem q_back (b74 : ∀ j, s.1 74 j ≤ 280) (h : HIS s) (t : TXW s) {a : Int} : TXW (f_X7_back2 s a).1 ∧ ROW (0 ≤ a ∧ a < s.1 (s.2.2 0 3) 0) (BK (s.2.2 0 3) s.1 a) (f_X7_back2 s a).2 := by
  obtain ⟨c, hcc⟩ : ∃ c, c = s.2.2 0 3 := ⟨_, rfl⟩
  have hc : c = 2 ∨ c = 18 := by rw [hcc]; exact h.c
  have i7 := isst_7 (a := a) hcc.symm
  have pp := TXW.prep b74 h t
  have tx := TXU.of b74 h t
  rw [← hcc] at pp tx ⊢
  unfold f_X7_back2
  by_cases z : f_X7_isStatement s a = 0
  · rw [bd_r, if_neg (fun w => w z)]
    exact ⟨t, fun w => absurd w (i7.mp z), fun _ => rfl⟩
  · rw [bd_r, if_pos z, bd_r, ← hcc, bd_r, bd2_r]
    have ra : 0 ≤ a ∧ a < s.1 c 0 := Classical.byContradiction (fun w => z (i7.mpr w))
    have fn : CFC c s.1 ∧ NCL c s.1 := by
      rcases tx with w | w
      · omega
      · exact ⟨w.2.1.2.2.2.2.1, w.2.2.2.1⟩
    generalize f_X4_prepare2 s c = s1 at pp ⊢
    have b := back_ok hc fn.1 fn.2 ra.1 ra.2 pp.1.2
    have e1 : s1.2.2 0 3 = c := (pp.2.1.2.2 0 3 (by omega)).trans hcc.symm
    have F1 : EQF c s.1 s1.1 := fun q q1 q2 => funext fun j => pp.2.1.1 q j (by omega)
    refine ⟨TXW.eb (s := s1) (by rw [e1]; exact hc) b.1 ?_ pp.2.2, fun _ => b.2.2, fun w => absurd ra w⟩
    rw [e1]
    exact RDY.cg F1 (RDY.eb hc b.1 b.2.1 pp.1)
theorem q_forth (b74 : ∀ j, s.1 74 j ≤ 280) (h : HIS s) (t : TXW s) {a : Int} : TXW (f_X7_forth2 s a).1 ∧ ROW (0 ≤ a ∧ a < s.1 (s.2.2 0 3) 0) (fun y => y < s.1 (s.2.2 0 3) 0 ∧ BK (s.2.2 0 3) s.1 y a) (f_X7_forth2 s a).2 := by
  obtain ⟨c, hcc⟩ : ∃ c, c = s.2.2 0 3 := ⟨_, rfl⟩
  have hc : c = 2 ∨ c = 18 := by rw [hcc]; exact h.c
  have i7 := isst_7 (a := a) hcc.symm
  have pp := TXW.prep b74 h t
  have tx := TXU.of b74 h t
  rw [← hcc] at pp tx ⊢
  unfold f_X7_forth2
  by_cases z : f_X7_isStatement s a = 0
  · rw [bd_r, if_neg (fun w => w z)]
    exact ⟨t, fun w => absurd w (i7.mp z), fun _ => rfl⟩
  · rw [bd_r, if_pos z, bd_r, ← hcc, bd_r, bd2_r]
    have ra : 0 ≤ a ∧ a < s.1 c 0 := Classical.byContradiction (fun w => z (i7.mpr w))
    have fn : CFC c s.1 ∧ NCL c s.1 := by
      rcases tx with w | w
      · omega
      · exact ⟨w.2.1.2.2.2.2.1, w.2.2.2.1⟩
    have n40 := fn.1.1
    generalize f_X4_prepare2 s c = s1 at pp ⊢
    have b := forth_ok hc fn.1 fn.2 ra.1 (show a ≤ 63 by omega) pp.1.2
    have e1 : s1.2.2 0 3 = c := (pp.2.1.2.2 0 3 (by omega)).trans hcc.symm
    have F1 : EQF c s.1 s1.1 := fun q q1 q2 => funext fun j => pp.2.1.1 q j (by omega)
    refine ⟨TXW.eb (s := s1) (by rw [e1]; exact hc) b.1 ?_ pp.2.2, fun _ => b.2.2, fun w => absurd ra w⟩
    rw [e1]
    exact RDY.cg F1 (RDY.eb hc b.1 b.2.1 pp.1)
theorem q_between (b74 : ∀ j, s.1 74 j ≤ 280) (h : HIS s) (t : TXW s) {a d : Int} : TXW (f_X7_between2 s a d).1 ∧ ROW ((0 ≤ a ∧ a < s.1 (s.2.2 0 3) 0) ∧ (0 ≤ d ∧ d < s.1 (s.2.2 0 3) 0)) (fun y => (y < s.1 (s.2.2 0 3) 0 ∧ BK (s.2.2 0 3) s.1 y a) ∧ BK (s.2.2 0 3) s.1 d y) (f_X7_between2 s a d).2 := by
  obtain ⟨c, hcc⟩ : ∃ c, c = s.2.2 0 3 := ⟨_, rfl⟩
  have hc : c = 2 ∨ c = 18 := by rw [hcc]; exact h.c
  have i7 := fun x => isst_7 (a := x) hcc.symm
  have pp := TXW.prep b74 h t
  have tx := TXU.of b74 h t
  rw [← hcc] at pp tx ⊢
  unfold f_X7_between2
  by_cases z : f_X7_isStatement s a = 0
  · rw [bd_r, if_pos z]
    exact ⟨t, fun w => absurd w.1 ((i7 a).mp z), fun _ => rfl⟩
  · rw [bd_r, if_neg z, bd_r]
    by_cases y : f_X7_isStatement s d = 0
    · rw [if_neg (fun w => w y)]
      exact ⟨t, fun w => absurd w.2 ((i7 d).mp y), fun _ => rfl⟩
    · rw [if_pos y, bd_r, ← hcc, bd_r, bd2_r, bd2_r, bd_r]
      have ra : 0 ≤ a ∧ a < s.1 c 0 := Classical.byContradiction (fun w => z ((i7 a).mpr w))
      have rd : 0 ≤ d ∧ d < s.1 c 0 := Classical.byContradiction (fun w => y ((i7 d).mpr w))
      have fn : CFC c s.1 ∧ NCL c s.1 := by
        rcases tx with w | w
        · omega
        · exact ⟨w.2.1.2.2.2.2.1, w.2.2.2.1⟩
      have n40 := fn.1.1
      generalize f_X4_prepare2 s c = s1 at pp ⊢
      have b := forth_ok hc fn.1 fn.2 ra.1 (show a ≤ 63 by omega) pp.1.2
      generalize f_X4_forthFrom2 s1 a = r1 at b ⊢
      have b2 := back_ok hc fn.1 fn.2 rd.1 rd.2 b.2.1
      generalize f_X4_backFrom2 r1.1 d = r2 at b2 ⊢
      have e1 : s1.2.2 0 3 = c := (pp.2.1.2.2 0 3 (by omega)).trans hcc.symm
      have F1 : EQF c s.1 s1.1 := fun q q1 q2 => funext fun j => pp.2.1.1 q j (by omega)
      refine ⟨TXW.eb (s := s1) (by rw [e1]; exact hc) (b.1.tr b2.1) ?_ pp.2.2, fun _ j j0 => ?_, fun w => absurd ⟨ra, rd⟩ w⟩
      · rw [e1]
        exact RDY.cg F1 (RDY.eb hc (b.1.tr b2.1) b2.2.1 pp.1)
      · rw [land_r, b.2.2 j j0, b2.2.2 j j0]
theorem q_backOf (b74 : ∀ j, s.1 74 j ≤ 280) (h : HIS s) (t : TXW s) {p k : Int} : TXW (f_X7_backOf2 s p k).1 ∧ ROW ((0 ≤ p ∧ p < s.1 (s.2.2 0 3) 1) ∧ (0 ≤ k ∧ k < 6)) (BO (s.2.2 0 3) s.1 p k) (f_X7_backOf2 s p k).2 := by
  obtain ⟨c, hcc⟩ : ∃ c, c = s.2.2 0 3 := ⟨_, rfl⟩
  have hc : c = 2 ∨ c = 18 := by rw [hcc]; exact h.c
  have i7 := ispr_7 (a := p) hcc.symm
  have ip := isport_r (s := s) (a := k)
  have pp := TXW.prep b74 h t
  have tx := TXU.of b74 h t
  rw [← hcc] at pp tx ⊢
  unfold f_X7_backOf2
  by_cases z : f_X7_isProcedure2 s p = 0
  · rw [bd_r, if_pos z]
    exact ⟨t, fun w => absurd w.1 (i7.mp z), fun _ => rfl⟩
  · rw [bd_r, if_neg z, bd_r]
    by_cases y : f_X7_isPort2 s k = 0
    · rw [if_neg (fun w => w y)]
      exact ⟨t, fun w => absurd w.2 (ip.mp y), fun _ => rfl⟩
    · rw [if_pos y, bd_r, ← hcc, bd_r, bd2_r]
      have ra : 0 ≤ p ∧ p < s.1 c 1 := Classical.byContradiction (fun w => z (i7.mpr w))
      have rk : 0 ≤ k ∧ k < 6 := Classical.byContradiction (fun w => y (ip.mpr w))
      have fn : CFC c s.1 ∧ NCL c s.1 := by
        rcases tx with w | w
        · omega
        · exact ⟨w.2.1.2.2.2.2.1, w.2.2.2.1⟩
      generalize f_X4_prepare2 s c = s1 at pp ⊢
      have b := bo_ok hc fn.1 fn.2 ra.1 ra.2 rk.1 rk.2 pp.1.2
      have e1 : s1.2.2 0 3 = c := (pp.2.1.2.2 0 3 (by omega)).trans hcc.symm
      have F1 : EQF c s.1 s1.1 := fun q q1 q2 => funext fun j => pp.2.1.1 q j (by omega)
      refine ⟨TXW.eb (s := s1) (by rw [e1]; exact hc) b.1 ?_ pp.2.2, fun _ => b.2.2, fun w => absurd ⟨ra, rk⟩ w⟩
      rw [e1]
      exact RDY.cg F1 (RDY.eb hc b.1 b.2.1 pp.1)
/-- what goes through a call -/
def SUM (c : Nat) (F : Nat → Nat → Int) (a i k : Int) : Prop := (0 ≤ a ∧ a < F c 0) ∧ F (c + 2) a.toNat = 1 ∧ (0 ≤ i ∧ i < 6) ∧ (0 ≤ k ∧ k < 6) ∧ TSM c F (F (c + 7) a.toNat) k i
theorem has_01 {s : ST} {x : Int64} {k : Int} : f_X7_has s x k = 0 ∨ f_X7_has s x k = 1 := by
  unfold f_X7_has
  rw [bd_r, bd_r, bd_r]
  by_cases z : o_lcmp (o_land (o_lushr x k) 1) 0 = 0
  · rw [if_pos z]; exact Or.inl rfl
  · rw [if_neg z]; exact Or.inr rfl
theorem i2l_bit {v i : Int} (i0 : 0 ≤ i) (i1 : i < 6) : bt (o_i2l v) i ↔ ib v i := by
  unfold bt ib o_i2l
  rw [Int32.toBitVec_toInt64, BitVec.getLsbD_signExtend]
  simp only [show i.toNat < 32 by omega, show i.toNat < 64 by omega, decide_true, Bool.true_and, if_true]
theorem q_summary (b74 : ∀ j, s.1 74 j ≤ 280) (h : HIS s) (t : TXW s) {a i k : Int} : TXW (f_X7_summary2 s a i k).1 ∧ ((f_X7_summary2 s a i k).2 = 0 ∨ (f_X7_summary2 s a i k).2 = 1) ∧ ((f_X7_summary2 s a i k).2 = 0 ↔ ¬ SUM (s.2.2 0 3) s.1 a i k) := by
  obtain ⟨c, hcc⟩ : ∃ c, c = s.2.2 0 3 := ⟨_, rfl⟩
  have hc : c = 2 ∨ c = 18 := by rw [hcc]; exact h.c
  have i7 := isst_7 (a := a) hcc.symm
  have ip := fun x => isport_r (s := s) (a := x)
  have pp := TXW.prep b74 h t
  have tx := TXU.of b74 h t
  rw [← hcc] at pp tx ⊢
  have no : ¬ SUM c s.1 a i k → TXW ((s, 0) : ST × Int).1 ∧ (((s, 0) : ST × Int).2 = 0 ∨ ((s, 0) : ST × Int).2 = 1) ∧ (((s, 0) : ST × Int).2 = 0 ↔ ¬ SUM c s.1 a i k) := fun n => ⟨t, Or.inl rfl, fun _ => n, fun _ => rfl⟩
  unfold f_X7_summary2
  by_cases z : f_X7_isStatement s a = 0
  · rw [bd_r, if_pos z]
    exact no (fun w => i7.mp z w.1)
  · rw [bd_r, if_neg z, bd_r, ← hcc, bd_r]
    have ra : 0 ≤ a ∧ a < s.1 c 0 := Classical.byContradiction (fun w => z (i7.mpr w))
    by_cases y : s.1 (c + 2) a.toNat = 1
    · rw [if_neg (fun w => w y), bd_r]
      by_cases x : f_X7_isPort2 s i = 0
      · rw [if_pos x]
        exact no (fun w => (ip i).mp x w.2.2.1)
      · rw [if_neg x, bd_r]
        by_cases v : f_X7_isPort2 s k = 0
        · rw [if_neg (fun w => w v)]
          exact no (fun w => (ip k).mp v w.2.2.2.1)
        · rw [if_pos v, bd_r, bd_r, bd_r]
          have ri : 0 ≤ i ∧ i < 6 := Classical.byContradiction (fun w => x ((ip i).mpr w))
          have rk : 0 ≤ k ∧ k < 6 := Classical.byContradiction (fun w => v ((ip k).mpr w))
          have fn : CFC c s.1 ∧ NCL c s.1 := by
            rcases tx with w | w
            · omega
            · exact ⟨w.2.1.2.2.2.2.1, w.2.2.2.1⟩
          generalize f_X4_prepare2 s c = s1 at pp ⊢
          have e1 : s1.2.2 0 3 = c := (pp.2.1.2.2 0 3 (by omega)).trans hcc.symm
          rw [e1, bd_r, bd_r, pp.2.1.1 (c + 7) _ (by omega)]
          have cq := (fn.1.2.2.2.2.1 a ra.1 ra.2).2.1 y
          have th := pp.1.2.1.2.2.2.2 (s.1 (c + 7) a.toNat) k i ⟨cq.1, cq.2, rk.1, rk.2, ri.1, ri.2⟩
          unfold f_X4_leadsThrough2
          rw [bd_r, bd_r, bd_r, show s.1 (c + 7) a.toNat * 6 + k = 6 * s.1 (c + 7) a.toNat + k by omega]
          have hh := has_r (s := s1) (x := o_i2l (s1.1 51 (6 * s.1 (c + 7) a.toNat + k).toNat)) ri.1 (show i ≤ 63 by omega)
          rw [i2l_bit ri.1 ri.2, th] at hh
          refine ⟨pp.2.2, has_01 (s := s1), ?_⟩
          show f_X7_has s1 _ i = 0 ↔ _
          rw [hh]
          exact ⟨fun w u => w u.2.2.2.2, fun w u => w ⟨ra, y, ri, rk, u⟩⟩
    · rw [if_pos y]
      exact no (fun w => y w.2.1)
end Q
