/-! what the law compares: run's answers -/
theorem run_law {h g k : HP} {v w a b a' b' : Int32} (b74 : ∀ j, (st h).1 74 j ≤ 280) (b82 : ∀ j, (st h).1 82 j ≤ 9) (d3 : (st k).1 70 53 ≤ 3000) (hi : HIS (st h)) (fx : FX KAm h g) (f7 : (st g, v.toInt) = f_X7_run2 (st h) a.toInt b.toInt) (f8 : (st k, w.toInt) = f_X8_run (st g) a'.toInt b'.toInt) (ea : a'.toInt = a.toInt) (eb : b'.toInt = b.toInt) : v.toInt = w.toInt := by
  rw [ea, eb] at f8
  have e7 : v.toInt = (f_X7_run2 (st h) a.toInt b.toInt).2 := congrArg Prod.snd f7
  have e8 : w.toInt = (f_X8_run (st g) a.toInt b.toInt).2 := congrArg Prod.snd f8
  have e9 : st k = (f_X8_run (st g) a.toInt b.toInt).1 := congrArg Prod.fst f8
  have fe : ∀ q j, 70 ≤ q → (st g).1 q j = (st h).1 q j := fun q j hq => congrArg Int32.toInt (fx q j (by unfold KAm; omega)).1
  rw [e7, e8]
  obtain ⟨c, d, cd, h3, h4, alt⟩ := hi
  rcases alt with z | z
  · have g30 : (st g).1 70 30 = 0 := (fe 70 30 (by omega)).trans z.1
    unfold f_X7_run2 f_X8_run
    rw [bd_r, h3, bd_r, z.2.2.1, if_neg (fun q => q rfl), bd_r, g30, if_pos rfl]
  · obtain ⟨P, T, EN, FI, EO, BH, TB, f, tk, n9, eP⟩ := HISC.rnf b74 b82 z.2
    exact run_same f tk n9 h3 eP (fun p _ _ => rfl) (fun q q1 q2 => funext fun j => fe q j (by omega)) (fe 70 29 (by omega)) (by rw [fe 70 30 (by omega), z.1]; decide) (by rw [← e9]; exact d3)

