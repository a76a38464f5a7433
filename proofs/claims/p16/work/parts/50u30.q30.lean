/-! what the law carries of the tables -/
def RT0 (c : Nat) (s : ST) : Prop := s.1 70 30 = 0 ∨ RTB c s.1 s
def PR0 (c : Nat) (s : ST) : Prop := s.1 49 2 = 0 ∨ TBL c s.1 s
def TXV (s : ST) : Prop := RT0 (s.2.2 0 3) s ∧ PR0 (s.2.2 0 3) s
theorem RT0.cong {c : Nat} {s s' : ST} (hc : c ≤ 18) (i : ∀ q j, (2 ≤ q ∧ q ≤ 33) ∨ (q = 70 ∧ j = 30) ∨ q = 103 → s'.1 q j = s.1 q j) (l : ∀ q j, q = 104 ∨ q = 105 ∨ q = 107 → s'.2.1 q j = s.2.1 q j) (c2 : 2 ≤ c) (h : RT0 c s) : RT0 c s' := by
  rcases h with h | h
  · exact Or.inl ((i 70 30 (by omega)).trans h)
  · exact Or.inr (RTB.cg (F := s.1) (fun p p1 p2 => funext fun j => i p j (by omega)) (RTB.s (fun j => i 103 j (by omega)) l h))
theorem PR0.cong {c : Nat} {s s' : ST} (hc : c ≤ 18) (i : ∀ q j, (2 ≤ q ∧ q ≤ 33) ∨ (q = 49 ∧ j = 2) → s'.1 q j = s.1 q j) (l : ∀ q j, 58 ≤ q → q ≤ 61 → s'.2.1 q j = s.2.1 q j) (c2 : 2 ≤ c) (h : PR0 c s) : PR0 c s' := by
  rcases h with h | h
  · exact Or.inl ((i 49 2 (by omega)).trans h)
  · exact Or.inr (TBL.cg (F := s.1) (fun p p1 p2 => funext fun j => i p j (by omega)) (TBL.s l h))
theorem TXV.cong {s s' : ST} (hc : s.2.2 0 3 = 2 ∨ s.2.2 0 3 = 18) (r3 : s'.2.2 0 3 = s.2.2 0 3) (i : ∀ q j, (2 ≤ q ∧ q ≤ 33) ∨ (q = 49 ∧ j = 2) ∨ (q = 70 ∧ j = 30) ∨ q = 103 → s'.1 q j = s.1 q j) (l : ∀ q j, (58 ≤ q ∧ q ≤ 61) ∨ q = 104 ∨ q = 105 ∨ q = 107 → s'.2.1 q j = s.2.1 q j) (h : TXV s) : TXV s' := by
  unfold TXV
  rw [r3]
  exact ⟨h.1.cong (by omega) (fun q j z => i q j (by omega)) (fun q j z => l q j (by omega)) (by omega), h.2.cong (by omega) (fun q j z => i q j (by omega)) (fun q j _ _ => l q j (by omega)) (by omega)⟩
theorem HIS.c {s : ST} (h : HIS s) : s.2.2 0 3 = 2 ∨ s.2.2 0 3 = 18 := by
  obtain ⟨c, d, cd, h3, _⟩ := h
  omega
/-- from what is shown to both sides' tables -/
theorem TXT.of {s : ST} (b74 : ∀ j, s.1 74 j ≤ 280) (h : HIS s) (t : TXV s) : TXT (s.2.2 0 3) s := by
  obtain ⟨c, d, cd, h3, h4, alt⟩ := h
  unfold TXV at t
  rw [h3] at t ⊢
  rcases alt with a | a
  · exact Or.inl ⟨a.1, a.2.1, a.2.2.1⟩
  · have b := HISC.bri b74 a.2
    refine Or.inr ⟨by omega, b.1, b.2.1, ?_⟩
    rcases t.1 with w | w
    · omega
    · exact w
/-- a question to the class leaves the tables as they stood, or made -/
theorem TXV.pq {s s' : ST} (b74 : ∀ j, s.1 74 j ≤ 280) (h : HIS s) (t : TXV s) (q : PQf s s') : TXV s' := by
  have hc := h.c
  have tx := TXT.of b74 h t
  obtain ⟨s1, h1, g⟩ := q
  have t1 : TXV s1 ∧ s1.2.2 0 3 = s.2.2 0 3 := by
    rcases h1 with z | z
    · rw [z]; exact ⟨t, rfl⟩
    · rw [z]
      rcases tx with w | w
      · -- no text: nothing is made that counts
        have nf : f_X4_prepare2 s (s.2.2 0 3) = f_X4_prepare2 s (s.2.2 0 3) := rfl
        have k : ∀ c, (c = 2 ∨ c = 18) → s.2.2 0 3 = c → CFC c s.1 → CLB c s → TXV (f_X4_prepare2 s c) ∧ (f_X4_prepare2 s c).2.2 0 3 = s.2.2 0 3 := fun c c2 e f cl => by
          have pr := t.2
          rw [e] at pr
          have p := prepare_ok c2 f cl pr
          have r := p.2.2.2 0 3 (by omega)
          refine ⟨?_, r⟩
          unfold TXV
          rw [r, e]
          refine ⟨Or.inl ((p.2.1 70 30 (by omega)).trans w.1), Or.inr (TBL.cg (F := s.1) (fun q q1 q2 => funext fun j => p.2.1 q j (by omega)) p.1)⟩
        obtain ⟨c, d, cd, h3, h4, alt⟩ := h
        rcases alt with a | a
        · refine k (s.2.2 0 3) hc rfl ?_ ?_
          · rw [h3]
            refine ⟨by omega, by omega, by omega, by omega, fun k k0 k1 => by omega, fun p p0 p1 => by omega⟩
          · rw [h3]
            intro k k0 k1
            rw [a.2.2.2.2.2, a.2.1]
            exact ⟨fun y => absurd y bt_0, fun y => by omega⟩
        · have b := HISC.bri b74 a.2
          refine k (s.2.2 0 3) hc rfl ?_ ?_
          · rw [h3]; exact b.1.2.2.2.2.1
          · rw [h3]; exact b.2.1
      · obtain ⟨_, bri, cl, rt⟩ := w
        have p := prepare_ok hc bri.2.2.2.2.1 cl t.2
        have r := p.2.2.2 0 3 (by omega)
        refine ⟨?_, r⟩
        unfold TXV
        rw [r]
        refine ⟨RT0.cong (s := s) (by omega) (fun q j z => p.2.1 q j (by omega)) (fun q j z => p.2.2.1 q j (by omega)) (by omega) (Or.inr rt), Or.inr (TBL.cg (F := s.1) (fun q q1 q2 => funext fun j => p.2.1 q j (by omega)) p.1)⟩
  exact TXV.cong (by rw [t1.2]; exact hc) (by rw [g.1]) (fun q j z => g.2.1 q j (by omega)) (fun q j z => g.2.2 q j (by omega)) t1.1
