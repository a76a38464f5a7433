theorem b_ways (l : Launch) (d : Nat) : ∀ n : Nat, (∀ {P : PP} {h : HP} (_ : Iv P h) (a2 : Int32) (a2l : 0 ≤ a2.toInt) (a2u : a2.toInt ≤ 259) (ht : TR h.2.1 (h.2.1 70 6).toInt ∧ CN h.2.1 (h.2.1 70 6).toInt (130 * (h.2.1 70 6).toInt) 0) (hi : II h.2.1 (h.2.1 70 6).toInt a2.toInt) (hm : 4 * (130 * (h.2.1 70 6).toInt + V h.2.1 73 (h.2.1 70 6).toInt - a2.toInt) + 2 * V h.2.1 80 a2.toInt + 4 ≤ (n : Int)), Mt l yX8_entryOf cX8_entryOf 2 (some .int) (d + n) [.ref 70, .int a2] h 0 0 (fun r h' => ∃ v : Int32, r = some (.int v) ∧ -1 ≤ v.toInt ∧ v.toInt ≤ 39 ∧ h = h' ∧ (v.toInt < V h.2.1 75 (h.2.1 70 6).toInt))) ∧ (∀ {P : PP} {h : HP} (_ : Iv P h) (a2 : Int32) (a2l : 0 ≤ a2.toInt) (a2u : a2.toInt ≤ 559) (ht : TR h.2.1 (h.2.1 70 6).toInt ∧ CN h.2.1 (h.2.1 70 6).toInt (130 * (h.2.1 70 6).toInt) 0) (hb : BB h.2.1 (h.2.1 70 6).toInt a2.toInt) (hm : (V h.2.1 92 a2.toInt = -1 → 4 * V h.2.1 73 (h.2.1 70 6).toInt + 5 ≤ (n : Int)) ∧ (0 ≤ V h.2.1 92 a2.toInt → 4 * (130 * (h.2.1 70 6).toInt + V h.2.1 73 (h.2.1 70 6).toInt - V h.2.1 92 a2.toInt) + 2 * V h.2.1 80 (V h.2.1 92 a2.toInt) + 3 ≤ (n : Int))), Mt l yX8_firstOf cX8_firstOf 2 (some .int) (d + n) [.ref 70, .int a2] h 0 0 (fun r h' => ∃ v : Int32, r = some (.int v) ∧ -1 ≤ v.toInt ∧ v.toInt ≤ 39 ∧ h = h' ∧ (v.toInt < V h.2.1 75 (h.2.1 70 6).toInt))) ∧ (∀ {P : PP} {h : HP} (_ : Iv P h) (a2 : Int32) (a2l : 0 ≤ a2.toInt) (a2u : a2.toInt ≤ 559) (ht : TR h.2.1 (h.2.1 70 6).toInt ∧ CN h.2.1 (h.2.1 70 6).toInt (130 * (h.2.1 70 6).toInt) 0) (hb : BB h.2.1 (h.2.1 70 6).toInt a2.toInt) (x : Int) (hx : (V h.2.1 92 a2.toInt = -1 ∧ 1 ≤ (n : Int)) ∨ (XC h.2.1 (h.2.1 70 6).toInt (V h.2.1 92 a2.toInt) x ∧ 4 * (130 * (h.2.1 70 6).toInt + V h.2.1 73 (h.2.1 70 6).toInt - x) + 2 * V h.2.1 80 (V h.2.1 92 a2.toInt) + 2 ≤ (n : Int))), Mt l yX8_endOf cX8_endOf 2 (some .int) (d + n) [.ref 70, .int a2] h 0 0 (fun r h' => ∃ v : Int32, r = some (.int v) ∧ -1 ≤ v.toInt ∧ v.toInt ≤ 39 ∧ h = h' ∧ (v.toInt < V h.2.1 75 (h.2.1 70 6).toInt))) ∧ (∀ {P : PP} {h : HP} (_ : Iv P h) (a2 : Int32) (a2l : 0 ≤ a2.toInt) (a2u : a2.toInt ≤ 259) (ht : TR h.2.1 (h.2.1 70 6).toInt ∧ CN h.2.1 (h.2.1 70 6).toInt (130 * (h.2.1 70 6).toInt) 0) (hi : II h.2.1 (h.2.1 70 6).toInt a2.toInt) (x : Int) (hx : XC h.2.1 (h.2.1 70 6).toInt a2.toInt x ∧ 4 * (130 * (h.2.1 70 6).toInt + V h.2.1 73 (h.2.1 70 6).toInt - x) + 2 * V h.2.1 80 a2.toInt + 1 ≤ (n : Int)), Mt l yX8_behind cX8_behind 2 (some .int) (d + n) [.ref 70, .int a2] h 0 0 (fun r h' => ∃ v : Int32, r = some (.int v) ∧ -1 ≤ v.toInt ∧ v.toInt ≤ 39 ∧ h = h' ∧ (v.toInt < V h.2.1 75 (h.2.1 70 6).toInt))) := by
  intro n
  induction n with
  | zero =>
    refine ⟨?_, ?_, ?_, ?_⟩
    · intro P h hv a2 a2l a2u ht hi hm
      exfalso
      have q1 := hi.2
      have q2 := (ht.2 a2.toInt hi.1 hi.2).1
      omega
    · intro P h hv a2 a2l a2u ht hb hm
      exfalso
      have tp := ht.1.1
      rcases (ht.1.2.2.2.2.2.1 a2.toInt hb).2.2.1 with z | z
      · have := hm.1 z; omega
      · have q1 := z.2
        have q2 := (ht.2 _ z.1 z.2).1
        have q3 := (hv.2.1 70 6).1
        have q4 : 0 ≤ (h.2.1 70 6).toInt := q3
        have q5 := z.1
        have := hm.2 (by omega); omega
    · intro P h hv a2 a2l a2u ht hb x hx
      exfalso
      rcases hx with hx | hx
      · have := hx.2; omega
      · have q1 := hx.1.2.1
        rcases (ht.1.2.2.2.2.2.1 a2.toInt hb).2.2.1 with z | z
        · have w := hx.1.1
          have w2 := hx.2
          have q6 := (hv.2.1 80 (V h.2.1 92 a2.toInt).toNat).1
          have q7 : 0 ≤ V h.2.1 80 (V h.2.1 92 a2.toInt) := q6
          omega
        · have q2 := (ht.2 _ z.1 z.2).1
          have := hx.2; omega
    · intro P h hv a2 a2l a2u ht hi x hx
      exfalso
      have q1 := hx.1.2.1
      have q2 := (ht.2 a2.toInt hi.1 hi.2).1
      have := hx.2; omega
  | succ n ih =>
    obtain ⟨hE, hF, hN, hB⟩ := ih
    exact ⟨@s_X8_entryOf_b l (d + n) n hF, @s_X8_firstOf_b l (d + n) n hN hE, @s_X8_endOf_b l (d + n) n hB, @s_X8_behind_b l (d + n) n hN hE⟩
theorem s_X8_entryOf (l : Launch) (d : Nat) {P : PP} {h : HP} (hv : Iv P h) (a2 : Int32) (a2l : 0 ≤ a2.toInt) (a2u : a2.toInt ≤ 259) (ht : TR h.2.1 (h.2.1 70 6).toInt ∧ CN h.2.1 (h.2.1 70 6).toInt (130 * (h.2.1 70 6).toInt) 0) (hi : II h.2.1 (h.2.1 70 6).toInt a2.toInt) : Mt l yX8_entryOf cX8_entryOf 2 (some .int) (d + 540) [.ref 70, .int a2] h 0 0 (fun r h' => ∃ v : Int32, r = some (.int v) ∧ -1 ≤ v.toInt ∧ v.toInt ≤ 39 ∧ h = h' ∧ (v.toInt < V h.2.1 75 (h.2.1 70 6).toInt)) := (b_ways l d 540).1 hv a2 a2l a2u ht hi (by have := ht.1.1; have := hi.1; have q : V h.2.1 73 (h.2.1 70 6).toInt ≤ 130 := (hv.2.1 73 _).2; have r : V h.2.1 80 a2.toInt ≤ 6 := (hv.2.1 80 _).2; omega)
theorem s_X8_firstOf (l : Launch) (d : Nat) {P : PP} {h : HP} (hv : Iv P h) (a2 : Int32) (a2l : 0 ≤ a2.toInt) (a2u : a2.toInt ≤ 559) (ht : TR h.2.1 (h.2.1 70 6).toInt ∧ CN h.2.1 (h.2.1 70 6).toInt (130 * (h.2.1 70 6).toInt) 0) (hb : BB h.2.1 (h.2.1 70 6).toInt a2.toInt) : Mt l yX8_firstOf cX8_firstOf 2 (some .int) (d + 540) [.ref 70, .int a2] h 0 0 (fun r h' => ∃ v : Int32, r = some (.int v) ∧ -1 ≤ v.toInt ∧ v.toInt ≤ 39 ∧ h = h' ∧ (v.toInt < V h.2.1 75 (h.2.1 70 6).toInt)) := (b_ways l d 540).2.1 hv a2 a2l a2u ht hb (by have := ht.1.1; have q : V h.2.1 73 (h.2.1 70 6).toInt ≤ 130 := (hv.2.1 73 _).2; have r : V h.2.1 80 (V h.2.1 92 a2.toInt) ≤ 6 := (hv.2.1 80 _).2; have t5 := (ht.1.2.2.2.2.2.1 a2.toInt hb).2.2.1; exact ⟨fun _ => by omega, fun z => by rcases t5 with t5 | t5; (omega); (have := t5.1; omega)⟩)
theorem s_X8_behind (l : Launch) (d : Nat) {P : PP} {h : HP} (hv : Iv P h) (a2 : Int32) (a2l : 0 ≤ a2.toInt) (a2u : a2.toInt ≤ 259) (ht : TR h.2.1 (h.2.1 70 6).toInt ∧ CN h.2.1 (h.2.1 70 6).toInt (130 * (h.2.1 70 6).toInt) 0) (hi : II h.2.1 (h.2.1 70 6).toInt a2.toInt) : Mt l yX8_behind cX8_behind 2 (some .int) (d + 540) [.ref 70, .int a2] h 0 0 (fun r h' => ∃ v : Int32, r = some (.int v) ∧ -1 ≤ v.toInt ∧ v.toInt ≤ 39 ∧ h = h' ∧ (v.toInt < V h.2.1 75 (h.2.1 70 6).toInt)) := (b_ways l d 540).2.2.2 hv a2 a2l a2u ht hi a2.toInt ⟨XC.self hi, by have := ht.1.1; have := hi.1; have q : V h.2.1 73 (h.2.1 70 6).toInt ≤ 130 := (hv.2.1 73 _).2; have r : V h.2.1 80 a2.toInt ≤ 6 := (hv.2.1 80 _).2; omega⟩
theorem dX8_catcher_0 : decode cX8_catcher 0 = .ok (.aload_n 0, 1) := by decide +kernel
theorem dX8_catcher_1 : decode cX8_catcher 1 = .ok (.aload_n 0, 1) := by decide +kernel
theorem dX8_catcher_2 : decode cX8_catcher 2 = .ok (.iload_n 1, 1) := by decide +kernel
theorem dX8_catcher_3 : decode cX8_catcher 3 = .ok (.invokevirtual 268, 3) := by decide +kernel
theorem dX8_catcher_6 : decode cX8_catcher 6 = .ok (.invokevirtual 265, 3) := by decide +kernel
theorem dX8_catcher_9 : decode cX8_catcher 9 = .ok (.istore_n 2, 1) := by decide +kernel
theorem dX8_catcher_10 : decode cX8_catcher 10 = .ok (.iload_n 2, 1) := by decide +kernel
theorem dX8_catcher_11 : decode cX8_catcher 11 = .ok (.iconst (-1), 1) := by decide +kernel
theorem dX8_catcher_12 : decode cX8_catcher 12 = .ok (.if_icmp .ne 6, 3) := by decide +kernel
theorem dX8_catcher_15 : decode cX8_catcher 15 = .ok (.bipush (-2), 2) := by decide +kernel
theorem dX8_catcher_17 : decode cX8_catcher 17 = .ok (.ireturn, 1) := by decide +kernel
theorem dX8_catcher_18 : decode cX8_catcher 18 = .ok (.aload_n 0, 1) := by decide +kernel
theorem dX8_catcher_19 : decode cX8_catcher 19 = .ok (.aload_n 0, 1) := by decide +kernel
theorem dX8_catcher_20 : decode cX8_catcher 20 = .ok (.getfield 56, 3) := by decide +kernel
theorem dX8_catcher_23 : decode cX8_catcher 23 = .ok (.iload_n 2, 1) := by decide +kernel
theorem dX8_catcher_24 : decode cX8_catcher 24 = .ok (.iaload, 1) := by decide +kernel
theorem dX8_catcher_25 : decode cX8_catcher 25 = .ok (.invokevirtual 253, 3) := by decide +kernel
theorem dX8_catcher_28 : decode cX8_catcher 28 = .ok (.istore_n 3, 1) := by decide +kernel
theorem dX8_catcher_29 : decode cX8_catcher 29 = .ok (.iload_n 3, 1) := by decide +kernel
theorem dX8_catcher_30 : decode cX8_catcher 30 = .ok (.iconst (-1), 1) := by decide +kernel
theorem dX8_catcher_31 : decode cX8_catcher 31 = .ok (.if_icmp .ne 6, 3) := by decide +kernel
theorem dX8_catcher_34 : decode cX8_catcher 34 = .ok (.bipush (-2), 2) := by decide +kernel
theorem dX8_catcher_36 : decode cX8_catcher 36 = .ok (.ireturn, 1) := by decide +kernel
theorem dX8_catcher_37 : decode cX8_catcher 37 = .ok (.aload_n 0, 1) := by decide +kernel
theorem dX8_catcher_38 : decode cX8_catcher 38 = .ok (.getfield 62, 3) := by decide +kernel
theorem dX8_catcher_41 : decode cX8_catcher 41 = .ok (.aload_n 0, 1) := by decide +kernel
theorem dX8_catcher_42 : decode cX8_catcher 42 = .ok (.iload_n 3, 1) := by decide +kernel
theorem dX8_catcher_43 : decode cX8_catcher 43 = .ok (.invokevirtual 268, 3) := by decide +kernel
theorem dX8_catcher_46 : decode cX8_catcher 46 = .ok (.iaload, 1) := by decide +kernel
theorem dX8_catcher_47 : decode cX8_catcher 47 = .ok (.istore 4, 2) := by decide +kernel
theorem dX8_catcher_49 : decode cX8_catcher 49 = .ok (.aload_n 0, 1) := by decide +kernel
theorem dX8_catcher_50 : decode cX8_catcher 50 = .ok (.getfield 74, 3) := by decide +kernel
theorem dX8_catcher_53 : decode cX8_catcher 53 = .ok (.iload 4, 2) := by decide +kernel
theorem dX8_catcher_55 : decode cX8_catcher 55 = .ok (.iaload, 1) := by decide +kernel
theorem dX8_catcher_56 : decode cX8_catcher 56 = .ok (.iconst (-1), 1) := by decide +kernel
theorem dX8_catcher_57 : decode cX8_catcher 57 = .ok (.if_icmp .eq 33, 3) := by decide +kernel
theorem dX8_catcher_60 : decode cX8_catcher 60 = .ok (.iload 4, 2) := by decide +kernel
theorem dX8_catcher_62 : decode cX8_catcher 62 = .ok (.aload_n 0, 1) := by decide +kernel
theorem dX8_catcher_63 : decode cX8_catcher 63 = .ok (.getfield 56, 3) := by decide +kernel
theorem dX8_catcher_66 : decode cX8_catcher 66 = .ok (.iload_n 2, 1) := by decide +kernel
theorem dX8_catcher_67 : decode cX8_catcher 67 = .ok (.iaload, 1) := by decide +kernel
theorem dX8_catcher_68 : decode cX8_catcher 68 = .ok (.if_icmp .ne 5, 3) := by decide +kernel
theorem dX8_catcher_71 : decode cX8_catcher 71 = .ok (.iload_n 3, 1) := by decide +kernel
theorem dX8_catcher_72 : decode cX8_catcher 72 = .ok (.ireturn, 1) := by decide +kernel
theorem dX8_catcher_73 : decode cX8_catcher 73 = .ok (.aload_n 0, 1) := by decide +kernel
theorem dX8_catcher_74 : decode cX8_catcher 74 = .ok (.getfield 62, 3) := by decide +kernel
theorem dX8_catcher_77 : decode cX8_catcher 77 = .ok (.aload_n 0, 1) := by decide +kernel
theorem dX8_catcher_78 : decode cX8_catcher 78 = .ok (.getfield 74, 3) := by decide +kernel
theorem dX8_catcher_81 : decode cX8_catcher 81 = .ok (.iload 4, 2) := by decide +kernel
theorem dX8_catcher_83 : decode cX8_catcher 83 = .ok (.iaload, 1) := by decide +kernel
theorem dX8_catcher_84 : decode cX8_catcher 84 = .ok (.iaload, 1) := by decide +kernel
theorem dX8_catcher_85 : decode cX8_catcher 85 = .ok (.istore 4, 2) := by decide +kernel
theorem dX8_catcher_87 : decode cX8_catcher 87 = .ok (.goto (-38), 3) := by decide +kernel
theorem dX8_catcher_90 : decode cX8_catcher 90 = .ok (.bipush (-2), 2) := by decide +kernel
theorem dX8_catcher_92 : decode cX8_catcher 92 = .ok (.ireturn, 1) := by decide +kernel
theorem dX8_tryOf_0 : decode cX8_tryOf 0 = .ok (.aload_n 0, 1) := by decide +kernel
theorem dX8_tryOf_1 : decode cX8_tryOf 1 = .ok (.getfield 62, 3) := by decide +kernel
theorem dX8_tryOf_4 : decode cX8_tryOf 4 = .ok (.iload_n 1, 1) := by decide +kernel
theorem dX8_tryOf_5 : decode cX8_tryOf 5 = .ok (.iaload, 1) := by decide +kernel
theorem dX8_tryOf_6 : decode cX8_tryOf 6 = .ok (.istore_n 2, 1) := by decide +kernel
theorem dX8_tryOf_7 : decode cX8_tryOf 7 = .ok (.aload_n 0, 1) := by decide +kernel
theorem dX8_tryOf_8 : decode cX8_tryOf 8 = .ok (.getfield 74, 3) := by decide +kernel
theorem dX8_tryOf_11 : decode cX8_tryOf 11 = .ok (.iload_n 2, 1) := by decide +kernel
theorem dX8_tryOf_12 : decode cX8_tryOf 12 = .ok (.iaload, 1) := by decide +kernel
theorem dX8_tryOf_13 : decode cX8_tryOf 13 = .ok (.iconst (-1), 1) := by decide +kernel
theorem dX8_tryOf_14 : decode cX8_tryOf 14 = .ok (.if_icmp .eq 43, 3) := by decide +kernel
theorem dX8_tryOf_17 : decode cX8_tryOf 17 = .ok (.aload_n 0, 1) := by decide +kernel
theorem dX8_tryOf_18 : decode cX8_tryOf 18 = .ok (.getfield 74, 3) := by decide +kernel
theorem dX8_tryOf_21 : decode cX8_tryOf 21 = .ok (.iload_n 2, 1) := by decide +kernel
theorem dX8_tryOf_22 : decode cX8_tryOf 22 = .ok (.iaload, 1) := by decide +kernel
theorem dX8_tryOf_23 : decode cX8_tryOf 23 = .ok (.istore_n 3, 1) := by decide +kernel
theorem dX8_tryOf_24 : decode cX8_tryOf 24 = .ok (.aload_n 0, 1) := by decide +kernel
theorem dX8_tryOf_25 : decode cX8_tryOf 25 = .ok (.getfield 29, 3) := by decide +kernel
theorem dX8_tryOf_28 : decode cX8_tryOf 28 = .ok (.iload_n 3, 1) := by decide +kernel
theorem dX8_tryOf_29 : decode cX8_tryOf 29 = .ok (.iaload, 1) := by decide +kernel
theorem dX8_tryOf_30 : decode cX8_tryOf 30 = .ok (.bipush 6, 2) := by decide +kernel
theorem dX8_tryOf_32 : decode cX8_tryOf 32 = .ok (.if_icmp .ne 15, 3) := by decide +kernel
theorem dX8_tryOf_35 : decode cX8_tryOf 35 = .ok (.aload_n 0, 1) := by decide +kernel
theorem dX8_tryOf_36 : decode cX8_tryOf 36 = .ok (.getfield 53, 3) := by decide +kernel
theorem dX8_tryOf_39 : decode cX8_tryOf 39 = .ok (.iload_n 3, 1) := by decide +kernel
theorem dX8_tryOf_40 : decode cX8_tryOf 40 = .ok (.iaload, 1) := by decide +kernel
theorem dX8_tryOf_41 : decode cX8_tryOf 41 = .ok (.iload_n 2, 1) := by decide +kernel
theorem dX8_tryOf_42 : decode cX8_tryOf 42 = .ok (.if_icmp .ne 5, 3) := by decide +kernel
theorem dX8_tryOf_45 : decode cX8_tryOf 45 = .ok (.iload_n 3, 1) := by decide +kernel
theorem dX8_tryOf_46 : decode cX8_tryOf 46 = .ok (.ireturn, 1) := by decide +kernel
theorem dX8_tryOf_47 : decode cX8_tryOf 47 = .ok (.aload_n 0, 1) := by decide +kernel
theorem dX8_tryOf_48 : decode cX8_tryOf 48 = .ok (.getfield 62, 3) := by decide +kernel
theorem dX8_tryOf_51 : decode cX8_tryOf 51 = .ok (.iload_n 3, 1) := by decide +kernel
theorem dX8_tryOf_52 : decode cX8_tryOf 52 = .ok (.iaload, 1) := by decide +kernel
theorem dX8_tryOf_53 : decode cX8_tryOf 53 = .ok (.istore_n 2, 1) := by decide +kernel
theorem dX8_tryOf_54 : decode cX8_tryOf 54 = .ok (.goto (-47), 3) := by decide +kernel
theorem dX8_tryOf_57 : decode cX8_tryOf 57 = .ok (.iconst (-1), 1) := by decide +kernel
theorem dX8_tryOf_58 : decode cX8_tryOf 58 = .ok (.ireturn, 1) := by decide +kernel
set_option maxHeartbeats 4000000 in
set_option maxRecDepth 100000 in
theorem s_X8_tryOf (l : Launch) (d : Nat) {P : PP} {h : HP} (hv : Iv P h) (a2 : Int32) (a2l : 0 ≤ a2.toInt) (a2u : a2.toInt ≤ 259) (ht : TR h.2.1 (h.2.1 70 6).toInt ∧ CN h.2.1 (h.2.1 70 6).toInt (130 * (h.2.1 70 6).toInt) 0) (hi : II h.2.1 (h.2.1 70 6).toInt a2.toInt) : Mt l yX8_tryOf cX8_tryOf 4 (some .int) (d + 1) [.ref 70, .int a2] h 0 0 (fun r h' => ∃ v : Int32, r = some (.int v) ∧ -1 ≤ v.toInt ∧ v.toInt ≤ 259 ∧ h = h' ∧ (v.toInt = -1 ∨ (II h.2.1 (h.2.1 70 6).toInt v.toInt ∧ V h.2.1 77 v.toInt = 6))) := by
  refine Mt_iv hv (by decide) (Nat.le_of_ble_eq_true rfl) ?_
  show Go l RX8 cX8_tryOf 4 (g_rm (d + 1) 0 0) "tryOf" (some .int) 117 0 0 (fun _ _ => True) (fun r h' => ∃ v : Int32, r = some (.int v) ∧ -1 ≤ v.toInt ∧ v.toInt ≤ 259 ∧ h = h' ∧ (v.toInt = -1 ∨ (II h.2.1 (h.2.1 70 6).toInt v.toInt ∧ V h.2.1 77 v.toInt = 6))) 0 0 [(0, .ref 70), (1, .int a2)] [] h
  obtain ⟨S, hS⟩ : ∃ S : Int, S = (h.2.1 70 6).toInt := ⟨_, rfl⟩
  have S0 : 0 ≤ S := by rw [hS]; exact (hv.2.1 70 6).1
  have S1 : S ≤ 1 := by rw [hS]; exact (hv.2.1 70 6).2
  rw [← hS] at ht
  rw [← hS] at hi
  have key : ∀ n : Nat, (∀ (l2 : Int32), 0 ≤ l2.toInt → l2.toInt ≤ 559 → (BB h.2.1 S l2.toInt) → (-1 ≤ V h.2.1 92 l2.toInt) → (3 * (V h.2.1 92 l2.toInt + 1) + 2 : Int) < n → Go l RX8 cX8_tryOf 4 (g_rm (d + 1) 0 0) "tryOf" (some .int) 117 0 0 (fun _ _ => True) (fun r h' => ∃ v : Int32, r = some (.int v) ∧ -1 ≤ v.toInt ∧ v.toInt ≤ 259 ∧ h = h' ∧ (v.toInt = -1 ∨ (II h.2.1 (h.2.1 70 6).toInt v.toInt ∧ V h.2.1 77 v.toInt = 6))) 0 7 [(0, .ref 70), (2, .int l2)] [] h) := by
    intro n
    induction n with
    | zero => exact (by intros; omega)
    | succ n ih =>
      refine ?_
      ·
        intro l2 l2l l2u x0 x1 hm
        refine go_aload_n (pc := 7) rfl dX8_tryOf_7 ?_
        refine gi_getF (pc := 8) (q := 92) hv fL_X8_74 rfl (Nat.le_of_ble_eq_true rfl) rfl (hv.rf (by decide)) dX8_tryOf_8 ?_
        refine go_iload_n (pc := 11) rfl dX8_tryOf_11 ?_
        refine gi_iald (pc := 12) (lo := -1) (hi := 259) (len := 560) hv (ti_rfl l2) rfl (by omega) (by omega) (fun _ => rfl) dX8_tryOf_12 (fun v1 v1l v1u v1w => ?_)
        have v1V : v1.toInt = V h.2.1 92 l2.toInt := by rw [v1w]; rfl
        refine go_iconst (pc := 13) (v := (-1)) (by decide) dX8_tryOf_13 ?_
        refine gf_icmp_eq (pc := 14) (tgt := 57) (ti_rfl v1) (ti_c (v := (-1)) (a := (-1)) (by decide)) (by decide) dX8_tryOf_14 (fun q2 => ?_) (fun q2 => ?_)
        ·
          refine go_iconst (pc := 57) (v := (-1)) (by decide) dX8_tryOf_57 ?_
          exact gi_iret (pc := 58) (ti_c (v := (-1)) (a := (-1)) (by decide)) ⟨_, rfl, (by rw [show ((-1) : Int32).toInt = (-1) from (ti_c (v := (-1)) (a := (-1)) (by decide))]; omega), (by rw [show ((-1) : Int32).toInt = (-1) from (ti_c (v := (-1)) (a := (-1)) (by decide))]; omega), rfl, (Or.inl (by decide))⟩ hv dX8_tryOf_58
        ·
          refine go_aload_n (pc := 17) rfl dX8_tryOf_17 ?_
          refine gi_getF (pc := 18) (q := 92) hv fL_X8_74 rfl (Nat.le_of_ble_eq_true rfl) rfl (hv.rf (by decide)) dX8_tryOf_18 ?_
          refine go_iload_n (pc := 21) rfl dX8_tryOf_21 ?_
          refine gi_iald (pc := 22) (lo := -1) (hi := 259) (len := 560) hv (ti_rfl l2) rfl (by omega) (by omega) (fun _ => rfl) dX8_tryOf_22 (fun v3 v3l v3u v3w => ?_)
          have v3V : v3.toInt = V h.2.1 92 l2.toInt := by rw [v3w]; rfl
          have t5 := (ht.1.2.2.2.2.2.1 l2.toInt x0).2.2.1
          rw [← v3V] at t5
          rcases t5 with t5 | t5
          · exact False.elim (by omega)
          refine go_istore_n (pc := 23) (Nat.le_of_ble_eq_true rfl) dX8_tryOf_23 (go_lv (lv2 := [(0, .ref 70), (2, .int l2), (3, .int v3)]) rfl ?_)
          refine go_aload_n (pc := 24) rfl dX8_tryOf_24 ?_
          refine gi_getF (pc := 25) (q := 77) hv fL_X8_29 rfl (Nat.le_of_ble_eq_true rfl) rfl (hv.rf (by decide)) dX8_tryOf_25 ?_
          refine go_iload_n (pc := 28) rfl dX8_tryOf_28 ?_
          refine gi_iald (pc := 29) (lo := 0) (hi := 6) (len := 260) hv (ti_rfl v3) rfl (by omega) (by omega) (fun _ => rfl) dX8_tryOf_29 (fun v4 v4l v4u v4w => ?_)
          have v4V : v4.toInt = V h.2.1 77 v3.toInt := by rw [v4w]; rfl
          refine go_bipush (pc := 30) (v := 6) (by decide) dX8_tryOf_30 ?_
          refine gf_icmp_ne (pc := 32) (tgt := 47) (ti_rfl v4) (ti_c (v := 6) (a := 6) (by decide)) (by decide) dX8_tryOf_32 (fun q5 => ?_) (fun q5 => ?_)
          ·
            refine go_aload_n (pc := 47) rfl dX8_tryOf_47 ?_
            refine gi_getF (pc := 48) (q := 88) hv fL_X8_62 rfl (Nat.le_of_ble_eq_true rfl) rfl (hv.rf (by decide)) dX8_tryOf_48 ?_
            refine go_iload_n (pc := 51) rfl dX8_tryOf_51 ?_
            refine gi_iald (pc := 52) (lo := 0) (hi := 559) (len := 260) hv (ti_rfl v3) rfl (by omega) (by omega) (fun _ => rfl) dX8_tryOf_52 (fun v6 v6l v6u v6w => ?_)
            have v6V : v6.toInt = V h.2.1 88 v3.toInt := by rw [v6w]; rfl
            have t2 : T2 h.2.1 S v3.toInt := ht.1.2.2.1 v3.toInt t5
            unfold T2 at t2
            have t2b : V h.2.1 92 (V h.2.1 88 v3.toInt) < v3.toInt := by rcases t2.2 with z | z <;> omega
            rw [← v6V] at t2b
            have oc : -1 ≤ V h.2.1 92 v6.toInt := (hv.2.1 92 _).1
            refine go_istore_n (pc := 53) (Nat.le_of_ble_eq_true rfl) dX8_tryOf_53 (go_lv (lv2 := [(0, .ref 70), (2, .int v6), (3, .int v3)]) rfl ?_)
            refine go_goto (pc := 54) (tgt := 7) (by decide) dX8_tryOf_54 ?_
            exact go_lv rfl (ih v6  (by omega) (by omega) (by rw [v6V]; exact t2.1) (by omega) (by omega))
          ·
            refine go_aload_n (pc := 35) rfl dX8_tryOf_35 ?_
            refine gi_getF (pc := 36) (q := 85) hv fL_X8_53 rfl (Nat.le_of_ble_eq_true rfl) rfl (hv.rf (by decide)) dX8_tryOf_36 ?_
            refine go_iload_n (pc := 39) rfl dX8_tryOf_39 ?_
            refine gi_iald (pc := 40) (lo := -1) (hi := 559) (len := 260) hv (ti_rfl v3) rfl (by omega) (by omega) (fun _ => rfl) dX8_tryOf_40 (fun v7 v7l v7u v7w => ?_)
            have v7V : v7.toInt = V h.2.1 85 v3.toInt := by rw [v7w]; rfl
            refine go_iload_n (pc := 41) rfl dX8_tryOf_41 ?_
            refine gf_icmp_ne (pc := 42) (tgt := 47) (ti_rfl v7) (ti_rfl l2) (by decide) dX8_tryOf_42 (fun q8 => ?_) (fun q8 => ?_)
            ·
              refine go_aload_n (pc := 47) rfl dX8_tryOf_47 ?_
              refine gi_getF (pc := 48) (q := 88) hv fL_X8_62 rfl (Nat.le_of_ble_eq_true rfl) rfl (hv.rf (by decide)) dX8_tryOf_48 ?_
              refine go_iload_n (pc := 51) rfl dX8_tryOf_51 ?_
              refine gi_iald (pc := 52) (lo := 0) (hi := 559) (len := 260) hv (ti_rfl v3) rfl (by omega) (by omega) (fun _ => rfl) dX8_tryOf_52 (fun v9 v9l v9u v9w => ?_)
              have v9V : v9.toInt = V h.2.1 88 v3.toInt := by rw [v9w]; rfl
              have t2 : T2 h.2.1 S v3.toInt := ht.1.2.2.1 v3.toInt t5
              unfold T2 at t2
              have t2b : V h.2.1 92 (V h.2.1 88 v3.toInt) < v3.toInt := by rcases t2.2 with z | z <;> omega
              rw [← v9V] at t2b
              have oc : -1 ≤ V h.2.1 92 v9.toInt := (hv.2.1 92 _).1
              refine go_istore_n (pc := 53) (Nat.le_of_ble_eq_true rfl) dX8_tryOf_53 (go_lv (lv2 := [(0, .ref 70), (2, .int v9), (3, .int v3)]) rfl ?_)
              refine go_goto (pc := 54) (tgt := 7) (by decide) dX8_tryOf_54 ?_
              exact go_lv rfl (ih v9  (by omega) (by omega) (by rw [v9V]; exact t2.1) (by omega) (by omega))
            ·
              refine go_iload_n (pc := 45) rfl dX8_tryOf_45 ?_
              exact gi_iret (pc := 46) (ti_rfl v3) ⟨_, rfl, (by rw [show (v3 : Int32).toInt = v3.toInt from (ti_rfl v3)]; omega), (by rw [show (v3 : Int32).toInt = v3.toInt from (ti_rfl v3)]; omega), rfl, (Or.inr ⟨by rw [← hS]; exact t5, by omega⟩)⟩ hv dX8_tryOf_46
  refine go_aload_n (pc := 0) rfl dX8_tryOf_0 ?_
  refine gi_getF (pc := 1) (q := 88) hv fL_X8_62 rfl (Nat.le_of_ble_eq_true rfl) rfl (hv.rf (by decide)) dX8_tryOf_1 ?_
  refine go_iload_n (pc := 4) rfl dX8_tryOf_4 ?_
  refine gi_iald (pc := 5) (lo := 0) (hi := 559) (len := 260) hv (ti_rfl a2) rfl (by omega) (by omega) (fun _ => rfl) dX8_tryOf_5 (fun v10 v10l v10u v10w => ?_)
  have v10V : v10.toInt = V h.2.1 88 a2.toInt := by rw [v10w]; rfl
  have ob : V h.2.1 92 v10.toInt ≤ 259 := (hv.2.1 92 _).2
  have oc : -1 ≤ V h.2.1 92 v10.toInt := (hv.2.1 92 _).1
  refine go_istore_n (pc := 6) (Nat.le_of_ble_eq_true rfl) dX8_tryOf_6 (go_lv (lv2 := [(0, .ref 70), (1, .int a2), (2, .int v10)]) rfl ?_)
  exact go_lv rfl ((key 805) v10  (by omega) (by omega) (by rw [v10V]; exact (ht.1.2.2.1 a2.toInt hi).1) (by omega) (by omega))
set_option maxHeartbeats 4000000 in
set_option maxRecDepth 100000 in
theorem s_X8_catcher (l : Launch) (d : Nat) {P : PP} {h : HP} (hv : Iv P h) (a2 : Int32) (a2l : 0 ≤ a2.toInt) (a2u : a2.toInt ≤ 39) (ht : TR h.2.1 (h.2.1 70 6).toInt ∧ CN h.2.1 (h.2.1 70 6).toInt (130 * (h.2.1 70 6).toInt) 0) (hs : a2.toInt < V h.2.1 75 (h.2.1 70 6).toInt) : Mt l yX8_catcher cX8_catcher 5 (some .int) (d + 541) [.ref 70, .int a2] h 0 0 (fun r h' => ∃ v : Int32, r = some (.int v) ∧ -2 ≤ v.toInt ∧ v.toInt ≤ 39 ∧ h = h') := by
  refine Mt_iv hv (by decide) (Nat.le_of_ble_eq_true rfl) ?_
  show Go l RX8 cX8_catcher 5 (g_rm (d + 541) 0 0) "catcher" (some .int) 117 0 0 (fun _ _ => True) (fun r h' => ∃ v : Int32, r = some (.int v) ∧ -2 ≤ v.toInt ∧ v.toInt ≤ 39 ∧ h = h') 0 0 [(0, .ref 70), (1, .int a2)] [] h
  obtain ⟨S, hS⟩ : ∃ S : Int, S = (h.2.1 70 6).toInt := ⟨_, rfl⟩
  have S0 : 0 ≤ S := by rw [hS]; exact (hv.2.1 70 6).1
  have S1 : S ≤ 1 := by rw [hS]; exact (hv.2.1 70 6).2
  rw [← hS] at ht
  rw [← hS] at hs
  have key : ∀ n : Nat, (∀ (l2 : Int32) (l3 : Int32) (l4 : Int32), 0 ≤ l2.toInt → l2.toInt ≤ 259 → 0 ≤ l3.toInt → l3.toInt ≤ 39 → 0 ≤ l4.toInt → l4.toInt ≤ 559 → (BB h.2.1 S l4.toInt) → (-1 ≤ V h.2.1 92 l4.toInt) → (3 * (V h.2.1 92 l4.toInt + 1) + 2 : Int) < n → Go l RX8 cX8_catcher 5 (g_rm (d + 541) 0 0) "catcher" (some .int) 117 0 0 (fun _ _ => True) (fun r h' => ∃ v : Int32, r = some (.int v) ∧ -2 ≤ v.toInt ∧ v.toInt ≤ 39 ∧ h = h') 0 49 [(0, .ref 70), (2, .int l2), (3, .int l3), (4, .int l4)] [] h) := by
    intro n
    induction n with
    | zero => exact (by intros; omega)
    | succ n ih =>
      refine ?_
      ·
        intro l2 l3 l4 l2l l2u l3l l3u l4l l4u x0 x1 hm
        refine go_aload_n (pc := 49) rfl dX8_catcher_49 ?_
        refine gi_getF (pc := 50) (q := 92) hv fL_X8_74 rfl (Nat.le_of_ble_eq_true rfl) rfl (hv.rf (by decide)) dX8_catcher_50 ?_
        refine go_iload (pc := 53) rfl dX8_catcher_53 ?_
        refine gi_iald (pc := 55) (lo := -1) (hi := 259) (len := 560) hv (ti_rfl l4) rfl (by omega) (by omega) (fun _ => rfl) dX8_catcher_55 (fun v1 v1l v1u v1w => ?_)
        have v1V : v1.toInt = V h.2.1 92 l4.toInt := by rw [v1w]; rfl
        refine go_iconst (pc := 56) (v := (-1)) (by decide) dX8_catcher_56 ?_
        refine gf_icmp_eq (pc := 57) (tgt := 90) (ti_rfl v1) (ti_c (v := (-1)) (a := (-1)) (by decide)) (by decide) dX8_catcher_57 (fun q2 => ?_) (fun q2 => ?_)
        ·
          refine go_bipush (pc := 90) (v := (-2)) (by decide) dX8_catcher_90 ?_
          exact gi_iret (pc := 92) (ti_c (v := (-2)) (a := (-2)) (by decide)) ⟨_, rfl, (by rw [show ((-2) : Int32).toInt = (-2) from (ti_c (v := (-2)) (a := (-2)) (by decide))]; omega), (by rw [show ((-2) : Int32).toInt = (-2) from (ti_c (v := (-2)) (a := (-2)) (by decide))]; omega), rfl⟩ hv dX8_catcher_92
        ·
          refine go_iload (pc := 60) rfl dX8_catcher_60 ?_
          refine go_aload_n (pc := 62) rfl dX8_catcher_62 ?_
          refine gi_getF (pc := 63) (q := 86) hv fL_X8_56 rfl (Nat.le_of_ble_eq_true rfl) rfl (hv.rf (by decide)) dX8_catcher_63 ?_
          refine go_iload_n (pc := 66) rfl dX8_catcher_66 ?_
          refine gi_iald (pc := 67) (lo := -1) (hi := 559) (len := 260) hv (ti_rfl l2) rfl (by omega) (by omega) (fun _ => rfl) dX8_catcher_67 (fun v3 v3l v3u v3w => ?_)
          have v3V : v3.toInt = V h.2.1 86 l2.toInt := by rw [v3w]; rfl
          refine gf_icmp_ne (pc := 68) (tgt := 73) (ti_rfl l4) (ti_rfl v3) (by decide) dX8_catcher_68 (fun q4 => ?_) (fun q4 => ?_)
          ·
            refine go_aload_n (pc := 73) rfl dX8_catcher_73 ?_
            refine gi_getF (pc := 74) (q := 88) hv fL_X8_62 rfl (Nat.le_of_ble_eq_true rfl) rfl (hv.rf (by decide)) dX8_catcher_74 ?_
            refine go_aload_n (pc := 77) rfl dX8_catcher_77 ?_
            refine gi_getF (pc := 78) (q := 92) hv fL_X8_74 rfl (Nat.le_of_ble_eq_true rfl) rfl (hv.rf (by decide)) dX8_catcher_78 ?_
            refine go_iload (pc := 81) rfl dX8_catcher_81 ?_
            refine gi_iald (pc := 83) (lo := -1) (hi := 259) (len := 560) hv (ti_rfl l4) rfl (by omega) (by omega) (fun _ => rfl) dX8_catcher_83 (fun v5 v5l v5u v5w => ?_)
            have v5V : v5.toInt = V h.2.1 92 l4.toInt := by rw [v5w]; rfl
            have t5 := (ht.1.2.2.2.2.2.1 l4.toInt x0).2.2.1
            rw [← v5V] at t5
            rcases t5 with t5 | t5
            · exact False.elim (by omega)
            refine gi_iald (pc := 84) (lo := 0) (hi := 559) (len := 260) hv (ti_rfl v5) rfl (by omega) (by omega) (fun _ => rfl) dX8_catcher_84 (fun v6 v6l v6u v6w => ?_)
            have v6V : v6.toInt = V h.2.1 88 v5.toInt := by rw [v6w]; rfl
            have t2 : T2 h.2.1 S v5.toInt := ht.1.2.2.1 v5.toInt t5
            unfold T2 at t2
            have t2b : V h.2.1 92 (V h.2.1 88 v5.toInt) < v5.toInt := by rcases t2.2 with z | z <;> omega
            rw [← v6V] at t2b
            have oc : -1 ≤ V h.2.1 92 v6.toInt := (hv.2.1 92 _).1
            refine go_istore (pc := 85) (Nat.le_of_ble_eq_true rfl) dX8_catcher_85 (go_lv (lv2 := [(0, .ref 70), (2, .int l2), (3, .int l3), (4, .int v6)]) rfl ?_)
            refine go_goto (pc := 87) (tgt := 49) (by decide) dX8_catcher_87 ?_
            exact go_lv rfl (ih l2 l3 v6  (by omega) (by omega) (by omega) (by omega) (by omega) (by omega) (by rw [v6V]; exact t2.1) (by omega) (by omega))
          ·
            refine go_iload_n (pc := 71) rfl dX8_catcher_71 ?_
            exact gi_iret (pc := 72) (ti_rfl l3) ⟨_, rfl, (by rw [show (l3 : Int32).toInt = l3.toInt from (ti_rfl l3)]; omega), (by rw [show (l3 : Int32).toInt = l3.toInt from (ti_rfl l3)]; omega), rfl⟩ hv dX8_catcher_72
  refine go_aload_n (pc := 0) rfl dX8_catcher_0 ?_
  refine go_aload_n (pc := 1) rfl dX8_catcher_1 ?_
  refine go_iload_n (pc := 2) rfl dX8_catcher_2 ?_
  refine go_invV (pc := 3) (sl := 0) (s_X8_item l (d + 539) hv a2 (by rw [show (a2 : Int32).toInt = a2.toInt from (ti_rfl a2)]; omega) (by rw [show (a2 : Int32).toInt = a2.toInt from (ti_rfl a2)]; omega)) mL_X8_268 iM_X8_item sM_X8_item (hv.sh rfl) rfl rfl rfl (Nat.le_of_ble_eq_true rfl) (show d + 539 + 1 + 1 ≤ d + 541 by omega) (show 8 + (2 + 11) + 40 * (d + 539 + 1) ≤ 40 * (d + 541) by omega) (g_c0 hv.ln) (Nat.le_of_ble_eq_true rfl) dX8_catcher_3 ?_
  intro r h7 hq _
  obtain ⟨v9, rfl, v9l, v9u, rfl, f8⟩ := hq
  have v9K : v9.toInt = V h.2.1 93 (40 * S + a2.toInt) := by rw [f8]; unfold g_it; rw [← hS]; rfl
  have it10g : v9.toInt = V h.2.1 93 (40 * S + a2.toInt) := by rw [f8]; unfold g_it; rw [← hS]; rfl
  have it10 : II h.2.1 S v9.toInt := by rw [it10g]; exact ht.1.2.2.2.2.2.2 a2.toInt (by omega) (by omega)
  have sM11 : (h.2.1 70 6).toInt = S := by rw [hv.fy (j := 6) (by omega), ← hv.fy (j := 6) (by omega)]; exact hS.symm
  refine go_invV (pc := 6) (sl := 0) (s_X8_tryOf l (d + 539) hv v9 (by rw [show (v9 : Int32).toInt = v9.toInt from (ti_rfl v9)]; omega) (by rw [show (v9 : Int32).toInt = v9.toInt from (ti_rfl v9)]; omega) (by rw [sM11]; exact ht) (by rw [sM11]; exact it10)) mL_X8_265 iM_X8_tryOf sM_X8_tryOf (hv.sh rfl) rfl rfl rfl (Nat.le_of_ble_eq_true rfl) (show d + 539 + 1 + 1 ≤ d + 541 by omega) (show 8 + (4 + 11) + 40 * (d + 539 + 1) ≤ 40 * (d + 541) by omega) (g_c0 hv.ln) (Nat.le_of_ble_eq_true rfl) dX8_catcher_6 ?_
  intro r h12 hq _
  obtain ⟨v14, rfl, v14l, v14u, rfl, f13⟩ := hq
  rw [sM11] at f13
  refine go_istore_n (pc := 9) (Nat.le_of_ble_eq_true rfl) dX8_catcher_9 (go_lv (lv2 := [(0, .ref 70), (1, .int a2), (2, .int v14)]) rfl ?_)
  refine go_iload_n (pc := 10) rfl dX8_catcher_10 ?_
  refine go_iconst (pc := 11) (v := (-1)) (by decide) dX8_catcher_11 ?_
  refine gf_icmp_ne (pc := 12) (tgt := 18) (ti_rfl v14) (ti_c (v := (-1)) (a := (-1)) (by decide)) (by decide) dX8_catcher_12 (fun q15 => ?_) (fun q15 => ?_)
  ·
    refine go_aload_n (pc := 18) rfl dX8_catcher_18 ?_
    refine go_aload_n (pc := 19) rfl dX8_catcher_19 ?_
    refine gi_getF (pc := 20) (q := 86) hv fL_X8_56 rfl (Nat.le_of_ble_eq_true rfl) rfl (hv.rf (by decide)) dX8_catcher_20 ?_
    refine go_iload_n (pc := 23) rfl dX8_catcher_23 ?_
    refine gi_iald (pc := 24) (lo := -1) (hi := 559) (len := 260) hv (ti_rfl v14) rfl (by omega) (by omega) (fun _ => rfl) dX8_catcher_24 (fun v16 v16l v16u v16w => ?_)
    have v16V : v16.toInt = V h.2.1 86 v14.toInt := by rw [v16w]; rfl
    rcases f13 with ty | ty
    · exact False.elim (by omega)
    have cc := (ht.2 v14.toInt ty.1.1 ty.1.2).2.1 ty.2
    rcases (ht.1.2.2.2.2.1 v14.toInt ty.1).2 with t4 | t4
    · exact False.elim (by omega)
    have sM17 : (h.2.1 70 6).toInt = S := by rw [hv.fy (j := 6) (by omega), ← hv.fy (j := 6) (by omega)]; exact hS.symm
    refine go_invV (pc := 25) (sl := 0) (s_X8_firstOf l (d + 0) hv v16 (by rw [show (v16 : Int32).toInt = v16.toInt from (ti_rfl v16)]; omega) (by rw [show (v16 : Int32).toInt = v16.toInt from (ti_rfl v16)]; omega) (by rw [sM17]; exact ht) (by rw [sM17]; exact (by rw [v16V]; exact t4.1))) mL_X8_253 iM_X8_firstOf sM_X8_firstOf (hv.sh rfl) rfl rfl rfl (Nat.le_of_ble_eq_true rfl) (show d + 0 + 540 + 1 ≤ d + 541 by omega) (show 8 + (2 + 11) + 40 * (d + 0 + 540) ≤ 40 * (d + 541) by omega) (g_c0 hv.ln) (Nat.le_of_ble_eq_true rfl) dX8_catcher_25 ?_
    intro r h18 hq _
    obtain ⟨v20, rfl, v20l, v20u, rfl, f19⟩ := hq
    rw [sM17] at f19
    refine go_istore_n (pc := 28) (Nat.le_of_ble_eq_true rfl) dX8_catcher_28 (go_lv (lv2 := [(0, .ref 70), (1, .int a2), (2, .int v14), (3, .int v20)]) rfl ?_)
    refine go_iload_n (pc := 29) rfl dX8_catcher_29 ?_
    refine go_iconst (pc := 30) (v := (-1)) (by decide) dX8_catcher_30 ?_
    refine gf_icmp_ne (pc := 31) (tgt := 37) (ti_rfl v20) (ti_c (v := (-1)) (a := (-1)) (by decide)) (by decide) dX8_catcher_31 (fun q21 => ?_) (fun q21 => ?_)
    ·
      refine go_aload_n (pc := 37) rfl dX8_catcher_37 ?_
      refine gi_getF (pc := 38) (q := 88) hv fL_X8_62 rfl (Nat.le_of_ble_eq_true rfl) rfl (hv.rf (by decide)) dX8_catcher_38 ?_
      refine go_aload_n (pc := 41) rfl dX8_catcher_41 ?_
      refine go_iload_n (pc := 42) rfl dX8_catcher_42 ?_
      refine go_invV (pc := 43) (sl := 0) (s_X8_item l (d + 539) hv v20 (by rw [show (v20 : Int32).toInt = v20.toInt from (ti_rfl v20)]; omega) (by rw [show (v20 : Int32).toInt = v20.toInt from (ti_rfl v20)]; omega)) mL_X8_268 iM_X8_item sM_X8_item (hv.sh rfl) rfl rfl rfl (Nat.le_of_ble_eq_true rfl) (show d + 539 + 1 + 1 ≤ d + 541 by omega) (show 8 + (2 + 11) + 40 * (d + 539 + 1) ≤ 40 * (d + 541) by omega) (g_c0 hv.ln) (Nat.le_of_ble_eq_true rfl) dX8_catcher_43 ?_
      intro r h22 hq _
      obtain ⟨v24, rfl, v24l, v24u, rfl, f23⟩ := hq
      have v24K : v24.toInt = V h.2.1 93 (40 * S + v20.toInt) := by rw [f23]; unfold g_it; rw [← hS]; rfl
      have it25g : v24.toInt = V h.2.1 93 (40 * S + v20.toInt) := by rw [f23]; unfold g_it; rw [← hS]; rfl
      have it25 : II h.2.1 S v24.toInt := by rw [it25g]; exact ht.1.2.2.2.2.2.2 v20.toInt (by omega) (by omega)
      refine gi_iald (pc := 46) (lo := 0) (hi := 559) (len := 260) hv (ti_rfl v24) rfl (by omega) (by omega) (fun _ => rfl) dX8_catcher_46 (fun v26 v26l v26u v26w => ?_)
      have v26V : v26.toInt = V h.2.1 88 v24.toInt := by rw [v26w]; rfl
      have ob : V h.2.1 92 v26.toInt ≤ 259 := (hv.2.1 92 _).2
      have oc : -1 ≤ V h.2.1 92 v26.toInt := (hv.2.1 92 _).1
      refine go_istore (pc := 47) (Nat.le_of_ble_eq_true rfl) dX8_catcher_47 (go_lv (lv2 := [(0, .ref 70), (1, .int a2), (2, .int v14), (3, .int v20), (4, .int v26)]) rfl ?_)
      exact go_lv rfl ((key 805) v14 v20 v26  (by omega) (by omega) (by omega) (by omega) (by omega) (by omega) (by rw [v26V]; exact (ht.1.2.2.1 _ it25).1) (by omega) (by omega))
    ·
      refine go_bipush (pc := 34) (v := (-2)) (by decide) dX8_catcher_34 ?_
      exact gi_iret (pc := 36) (ti_c (v := (-2)) (a := (-2)) (by decide)) ⟨_, rfl, (by rw [show ((-2) : Int32).toInt = (-2) from (ti_c (v := (-2)) (a := (-2)) (by decide))]; omega), (by rw [show ((-2) : Int32).toInt = (-2) from (ti_c (v := (-2)) (a := (-2)) (by decide))]; omega), rfl⟩ hv dX8_catcher_36
  ·
    refine go_bipush (pc := 15) (v := (-2)) (by decide) dX8_catcher_15 ?_
    exact gi_iret (pc := 17) (ti_c (v := (-2)) (a := (-2)) (by decide)) ⟨_, rfl, (by rw [show ((-2) : Int32).toInt = (-2) from (ti_c (v := (-2)) (a := (-2)) (by decide))]; omega), (by rw [show ((-2) : Int32).toInt = (-2) from (ti_c (v := (-2)) (a := (-2)) (by decide))]; omega), rfl⟩ hv dX8_catcher_17
