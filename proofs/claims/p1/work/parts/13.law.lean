theorem g_cl {h : HP} {n m c : Nat} (e : h.1.length = n) (q : n + m ≤ c) : h.1.length - 0 + m ≤ c := by omega
set_option maxHeartbeats 40000000 in
set_option maxRecDepth 100000 in
theorem law_6 (l : Launch) (nm : String) (xs : Nat → Int32) : Go l RL cL_law 4 room_1 nm (some .boolean) 0 117 7302250 (fun b s => va_X b 6 xs s s.heap ∧ b < s.heap.size) (fun r _ => r = some (.int 1)) 0 0 [(0, .retAddr 0)] [] hpE := by
  refine go_new (pc := 0) (sl := 0) (ci := 7) rfl cL_L_7 oC_X7 nC_X7 (Nat.le_of_ble_eq_true rfl) (Nat.le_of_ble_eq_true rfl) dL_law_0 ?_
  refine go_dup (pc := 3) rfl dL_law_3 ?_
  refine go_invI (pc := 4) (sl := 8) (k9_X7_init l) mL_L_9 iM_X7_init rfl rfl rfl (Nat.le_of_ble_eq_true rfl) (Nat.le_of_ble_eq_true rfl) (Nat.le_of_ble_eq_true rfl) (Nat.le_of_ble_eq_true rfl) (Nat.le_of_ble_eq_true rfl) dL_law_4 ?_
  intro r h' hq _
  obtain ⟨rfl, rfl⟩ := hq
  refine go_astore_n (pc := 7) (Nat.le_of_ble_eq_true rfl) dL_law_7 (go_lv (lv2 := [(0, .retAddr 0), (1, .ref 0)]) rfl ?_)
  refine go_new (pc := 8) (sl := 12382) (ci := 8) rfl cL_L_10 oC_X8 nC_X8 (Nat.le_of_ble_eq_true rfl) (Nat.le_of_ble_eq_true rfl) dL_law_8 ?_
  refine go_dup (pc := 11) rfl dL_law_11 ?_
  refine go_invI (pc := 12) (sl := 12442) (k10_X8_init l) mL_L_12 iM_X8_init rfl rfl rfl (Nat.le_of_ble_eq_true rfl) (Nat.le_of_ble_eq_true rfl) (Nat.le_of_ble_eq_true rfl) (Nat.le_of_ble_eq_true rfl) (Nat.le_of_ble_eq_true rfl) dL_law_12 ?_
  intro r h' hq _
  obtain ⟨rfl, rfl⟩ := hq
  refine go_astore_n (pc := 15) (Nat.le_of_ble_eq_true rfl) dL_law_15 (go_lv (lv2 := [(0, .retAddr 0), (1, .ref 0), (2, .ref 70)]) rfl ?_)
  refine go_iconst (pc := 16) (v := 0) (by decide) dL_law_16 ?_
  refine go_istore_n (pc := 17) (Nat.le_of_ble_eq_true rfl) dL_law_17 (go_lv (lv2 := [(0, .retAddr 0), (1, .ref 0), (2, .ref 70), (3, .int 0)]) rfl ?_)
  refine go_iload_n (pc := 18) rfl dL_law_18 ?_
  refine go_aload_nS (pc := 19) rfl dL_law_19 ?_
  refine go_slen (pc := 20) (L := 6) (fun b s q => q) rfl dL_law_20 (go_topi (y := 6) (by decide +kernel) ?_)
  refine go_bipush (pc := 21) (v := 6) (by decide) dL_law_21 ?_
  refine go_isub (pc := 23) dL_law_23 (go_topi (y := 0) (by decide) ?_)
  refine go_icmp_gt (pc := 24) (tgt := 666) (by decide) dL_law_24 (fun q => absurd q (by decide)) (fun _ => ?_)
  refine go_aload_nS (pc := 27) rfl dL_law_27 ?_
  refine go_iload_n (pc := 28) rfl dL_law_28 ?_
  refine go_sldj (pc := 29) (i := 0) (j := 0) (L := 6) (fun b s q => q) rfl (by decide +kernel) (by decide +kernel) dL_law_29 ?_
  refine go_bipush (pc := 30) (v := 31) (by decide) dL_law_30 ?_
  refine go_iand (pc := 32) dL_law_32 ?_
  by_cases q1 : ((xs 0) &&& 31) = 0
  ·
    refine go_tableIn (pc := 33) (tgt := 120) (off := 87) (by rw [q1]; decide) (by rw [q1]; decide) (by rw [q1]; decide) (by decide) dL_law_33 ?_
    refine go_aload_n (pc := 120) rfl dL_law_120 ?_
    refine go_aload_nS (pc := 121) rfl dL_law_121 ?_
    refine go_iload_n (pc := 122) rfl dL_law_122 ?_
    refine go_iconst (pc := 123) (v := 1) (by decide) dL_law_123 ?_
    refine go_iadd (pc := 124) dL_law_124 (go_topi (y := 1) (by decide) ?_)
    refine go_sldj (pc := 125) (i := 1) (j := 1) (L := 6) (fun b s q => q) rfl (by decide +kernel) (by decide +kernel) dL_law_125 ?_
    refine go_aload_nS (pc := 126) rfl dL_law_126 ?_
    refine go_iload_n (pc := 127) rfl dL_law_127 ?_
    refine go_iconst (pc := 128) (v := 2) (by decide) dL_law_128 ?_
    refine go_iadd (pc := 129) dL_law_129 (go_topi (y := 2) (by decide) ?_)
    refine go_sldj (pc := 130) (i := 2) (j := 2) (L := 6) (fun b s q => q) rfl (by decide +kernel) (by decide +kernel) dL_law_130 ?_
    refine go_aload_nS (pc := 131) rfl dL_law_131 ?_
    refine go_iload_n (pc := 132) rfl dL_law_132 ?_
    refine go_iconst (pc := 133) (v := 3) (by decide) dL_law_133 ?_
    refine go_iadd (pc := 134) dL_law_134 (go_topi (y := 3) (by decide) ?_)
    refine go_sldj (pc := 135) (i := 3) (j := 3) (L := 6) (fun b s q => q) rfl (by decide +kernel) (by decide +kernel) dL_law_135 ?_
    refine go_aload_nS (pc := 136) rfl dL_law_136 ?_
    refine go_iload_n (pc := 137) rfl dL_law_137 ?_
    refine go_iconst (pc := 138) (v := 4) (by decide) dL_law_138 ?_
    refine go_iadd (pc := 139) dL_law_139 (go_topi (y := 4) (by decide) ?_)
    refine go_sldj (pc := 140) (i := 4) (j := 4) (L := 6) (fun b s q => q) rfl (by decide +kernel) (by decide +kernel) dL_law_140 ?_
    refine go_aload_nS (pc := 141) rfl dL_law_141 ?_
    refine go_iload_n (pc := 142) rfl dL_law_142 ?_
    refine go_iconst (pc := 143) (v := 5) (by decide) dL_law_143 ?_
    refine go_iadd (pc := 144) dL_law_144 (go_topi (y := 5) (by decide) ?_)
    refine go_sldj (pc := 145) (i := 5) (j := 5) (L := 6) (fun b s q => q) rfl (by decide +kernel) (by decide +kernel) dL_law_145 ?_
    refine go_invV (pc := 146) (sl := 32419) (k16_X7_feed l xs) mL_L_13 iM_X7_feed sM_X7_feed (g_sh hpS rfl) rfl rfl rfl (Nat.le_of_ble_eq_true rfl) (Nat.le_of_ble_eq_true rfl) (Nat.le_of_ble_eq_true rfl) (g_cl hpN (Nat.le_of_ble_eq_true rfl)) (Nat.le_of_ble_eq_true rfl) dL_law_146 ?_
    intro r h' hq _
    obtain ⟨rfl, rfl⟩ := hq
    refine go_aload_n (pc := 149) rfl dL_law_149 ?_
    refine go_aload_nS (pc := 150) rfl dL_law_150 ?_
    refine go_iload_n (pc := 151) rfl dL_law_151 ?_
    refine go_iconst (pc := 152) (v := 1) (by decide) dL_law_152 ?_
    refine go_iadd (pc := 153) dL_law_153 (go_topi (y := 1) (by decide) ?_)
    refine go_sldj (pc := 154) (i := 1) (j := 1) (L := 6) (fun b s q => q) rfl (by decide +kernel) (by decide +kernel) dL_law_154 ?_
    refine go_aload_nS (pc := 155) rfl dL_law_155 ?_
    refine go_iload_n (pc := 156) rfl dL_law_156 ?_
    refine go_iconst (pc := 157) (v := 2) (by decide) dL_law_157 ?_
    refine go_iadd (pc := 158) dL_law_158 (go_topi (y := 2) (by decide) ?_)
    refine go_sldj (pc := 159) (i := 2) (j := 2) (L := 6) (fun b s q => q) rfl (by decide +kernel) (by decide +kernel) dL_law_159 ?_
    refine go_aload_nS (pc := 160) rfl dL_law_160 ?_
    refine go_iload_n (pc := 161) rfl dL_law_161 ?_
    refine go_iconst (pc := 162) (v := 3) (by decide) dL_law_162 ?_
    refine go_iadd (pc := 163) dL_law_163 (go_topi (y := 3) (by decide) ?_)
    refine go_sldj (pc := 164) (i := 3) (j := 3) (L := 6) (fun b s q => q) rfl (by decide +kernel) (by decide +kernel) dL_law_164 ?_
    refine go_aload_nS (pc := 165) rfl dL_law_165 ?_
    refine go_iload_n (pc := 166) rfl dL_law_166 ?_
    refine go_iconst (pc := 167) (v := 4) (by decide) dL_law_167 ?_
    refine go_iadd (pc := 168) dL_law_168 (go_topi (y := 4) (by decide) ?_)
    refine go_sldj (pc := 169) (i := 4) (j := 4) (L := 6) (fun b s q => q) rfl (by decide +kernel) (by decide +kernel) dL_law_169 ?_
    refine go_aload_nS (pc := 170) rfl dL_law_170 ?_
    refine go_iload_n (pc := 171) rfl dL_law_171 ?_
    refine go_iconst (pc := 172) (v := 5) (by decide) dL_law_172 ?_
    refine go_iadd (pc := 173) dL_law_173 (go_topi (y := 5) (by decide) ?_)
    refine go_sldj (pc := 174) (i := 5) (j := 5) (L := 6) (fun b s q => q) rfl (by decide +kernel) (by decide +kernel) dL_law_174 ?_
    refine go_invV (pc := 175) (sl := 32419) (k22_X8_feed l xs) mL_L_17 iM_X8_feed sM_X8_feed (g_shI (g_shI (g_shI (g_shI (g_shI (g_shI (g_shI (g_shI (g_shI (g_shI (g_shI (g_shI (g_shI (g_shI (g_shI (g_shI (g_shI (g_shI (g_shI (g_shI (g_shI (g_shI (g_shI (g_shI (g_shI (g_shI (g_shI (g_shI (g_shI (g_shI (g_shI (g_shI (g_shI (g_shI (g_shI (g_shI (g_shI (g_shI (g_shI (g_shI (g_sh hpS rfl))))))))))))))))))))))))))))))))))))))))) rfl rfl rfl (Nat.le_of_ble_eq_true rfl) (Nat.le_of_ble_eq_true rfl) (Nat.le_of_ble_eq_true rfl) (g_cl (g_lnI (g_lnI (g_lnI (g_lnI (g_lnI (g_lnI (g_lnI (g_lnI (g_lnI (g_lnI (g_lnI (g_lnI (g_lnI (g_lnI (g_lnI (g_lnI (g_lnI (g_lnI (g_lnI (g_lnI (g_lnI (g_lnI (g_lnI (g_lnI (g_lnI (g_lnI (g_lnI (g_lnI (g_lnI (g_lnI (g_lnI (g_lnI (g_lnI (g_lnI (g_lnI (g_lnI (g_lnI (g_lnI (g_lnI (g_lnI hpN)))))))))))))))))))))))))))))))))))))))) (Nat.le_of_ble_eq_true rfl)) (Nat.le_of_ble_eq_true rfl) dL_law_175 ?_
    intro r h' hq _
    obtain ⟨rfl, rfl⟩ := hq
    refine go_icmp_eq (pc := 178) (tgt := 660) (by decide) dL_law_178 (fun _ => ?_) (fun q => absurd q (by decide))
    refine go_iincv (pc := 660) (y := 6) (Nat.le_of_ble_eq_true rfl) rfl (by decide) dL_law_660 (go_lv (lv2 := [(0, .retAddr 0), (1, .ref 0), (2, .ref 70), (3, .int 6)]) rfl ?_)
    refine go_goto (pc := 663) (tgt := 18) (by decide) dL_law_663 ?_
    refine go_iload_n (pc := 18) rfl dL_law_18 ?_
    refine go_aload_nS (pc := 19) rfl dL_law_19 ?_
    refine go_slen (pc := 20) (L := 6) (fun b s q => q) rfl dL_law_20 (go_topi (y := 6) (by decide +kernel) ?_)
    refine go_bipush (pc := 21) (v := 6) (by decide) dL_law_21 ?_
    refine go_isub (pc := 23) dL_law_23 (go_topi (y := 0) (by decide) ?_)
    refine go_icmp_gt (pc := 24) (tgt := 666) (by decide) dL_law_24 (fun _ => ?_) (fun q => absurd q (by decide))
    refine go_iconst (pc := 666) (v := 1) (by decide) dL_law_666 ?_
    exact go_iret (pc := 667) rfl rfl (g_lnI (g_lnI (g_lnI (g_lnI (g_lnI (g_lnI (g_lnI (g_lnI (g_lnI (g_lnI (g_lnI (g_lnI (g_lnI (g_lnI (g_lnI (g_lnI (g_lnI (g_lnI (g_lnI (g_lnI (g_lnI (g_lnI (g_lnI (g_lnI (g_lnI (g_lnI (g_lnI (g_lnI (g_lnI (g_lnI (g_lnI (g_lnI (g_lnI (g_lnI (g_lnI (g_lnI (g_lnI (g_lnI (g_lnI (g_lnI (g_lnI (g_lnI (g_lnI (g_lnI (g_lnI (g_lnI (g_lnI (g_lnI (g_lnI (g_lnI (g_lnI (g_lnI (g_lnI (g_lnI (g_lnI (g_lnI (g_lnI (g_lnI (g_lnI (g_lnI (g_lnI (g_lnI (g_lnI (g_lnI (g_lnI (g_lnI (g_lnI (g_lnI (g_lnI (g_lnI (g_lnI (g_lnI (g_lnI (g_lnI (g_lnI (g_lnI (g_lnI (g_lnI (g_lnI (g_lnI hpN)))))))))))))))))))))))))))))))))))))))))))))))))))))))))))))))))))))))))))))))) (Nat.le_of_ble_eq_true rfl) dL_law_667
  by_cases q2 : ((xs 0) &&& 31) = 1
  ·
    refine go_tableIn (pc := 33) (tgt := 183) (off := 150) (by rw [q2]; decide) (by rw [q2]; decide) (by rw [q2]; decide) (by decide) dL_law_33 ?_
    refine go_aload_n (pc := 183) rfl dL_law_183 ?_
    refine go_aload_nS (pc := 184) rfl dL_law_184 ?_
    refine go_iload_n (pc := 185) rfl dL_law_185 ?_
    refine go_iconst (pc := 186) (v := 1) (by decide) dL_law_186 ?_
    refine go_iadd (pc := 187) dL_law_187 (go_topi (y := 1) (by decide) ?_)
    refine go_sldj (pc := 188) (i := 1) (j := 1) (L := 6) (fun b s q => q) rfl (by decide +kernel) (by decide +kernel) dL_law_188 ?_
    refine go_invV (pc := 189) (sl := 32419) (k23_X7_end l xs) mL_L_18 iM_X7_end sM_X7_end (g_sh hpS rfl) rfl rfl rfl (Nat.le_of_ble_eq_true rfl) (Nat.le_of_ble_eq_true rfl) (Nat.le_of_ble_eq_true rfl) (g_cl hpN (Nat.le_of_ble_eq_true rfl)) (Nat.le_of_ble_eq_true rfl) dL_law_189 ?_
    intro r h' hq _
    rcases hq with ⟨q3, rfl, rfl⟩ | ⟨q3, q4, rfl, rfl⟩ | ⟨q3, q4, rfl, rfl⟩
    ·
      refine go_aload_n (pc := 192) rfl dL_law_192 ?_
      refine go_aload_nS (pc := 193) rfl dL_law_193 ?_
      refine go_iload_n (pc := 194) rfl dL_law_194 ?_
      refine go_iconst (pc := 195) (v := 1) (by decide) dL_law_195 ?_
      refine go_iadd (pc := 196) dL_law_196 (go_topi (y := 1) (by decide) ?_)
      refine go_sldj (pc := 197) (i := 1) (j := 1) (L := 6) (fun b s q => q) rfl (by decide +kernel) (by decide +kernel) dL_law_197 ?_
      refine go_invV (pc := 198) (sl := 32419) (k25_X8_end l xs) mL_L_22 iM_X8_end sM_X8_end (g_sh hpS rfl) rfl rfl rfl (Nat.le_of_ble_eq_true rfl) (Nat.le_of_ble_eq_true rfl) (Nat.le_of_ble_eq_true rfl) (g_cl hpN (Nat.le_of_ble_eq_true rfl)) (Nat.le_of_ble_eq_true rfl) dL_law_198 ?_
      intro r h' hq _
      rcases hq with ⟨q4, rfl, rfl⟩ | ⟨q4, q5, rfl, rfl⟩ | ⟨q4, q5, rfl, rfl⟩
      ·
        refine go_icmp_eq (pc := 201) (tgt := 660) (by decide) dL_law_201 (fun _ => ?_) (fun q => absurd q (by decide))
        refine go_iincv (pc := 660) (y := 6) (Nat.le_of_ble_eq_true rfl) rfl (by decide) dL_law_660 (go_lv (lv2 := [(0, .retAddr 0), (1, .ref 0), (2, .ref 70), (3, .int 6)]) rfl ?_)
        refine go_goto (pc := 663) (tgt := 18) (by decide) dL_law_663 ?_
        refine go_iload_n (pc := 18) rfl dL_law_18 ?_
        refine go_aload_nS (pc := 19) rfl dL_law_19 ?_
        refine go_slen (pc := 20) (L := 6) (fun b s q => q) rfl dL_law_20 (go_topi (y := 6) (by decide +kernel) ?_)
        refine go_bipush (pc := 21) (v := 6) (by decide) dL_law_21 ?_
        refine go_isub (pc := 23) dL_law_23 (go_topi (y := 0) (by decide) ?_)
        refine go_icmp_gt (pc := 24) (tgt := 666) (by decide) dL_law_24 (fun _ => ?_) (fun q => absurd q (by decide))
        refine go_iconst (pc := 666) (v := 1) (by decide) dL_law_666 ?_
        exact go_iret (pc := 667) rfl rfl hpN (Nat.le_of_ble_eq_true rfl) dL_law_667
      ·
        exfalso; have z0 : (0 : Int32).toInt = 0 := (by decide); simp only [Int32.lt_iff_toInt_lt, Int32.le_iff_toInt_le, ← Int32.toInt_inj, z0] at q3 q4 q5; omega
      ·
        exfalso; have z0 : (0 : Int32).toInt = 0 := (by decide); simp only [Int32.lt_iff_toInt_lt, Int32.le_iff_toInt_le, ← Int32.toInt_inj, z0] at q3 q4 q5; omega
    ·
      refine go_aload_n (pc := 192) rfl dL_law_192 ?_
      refine go_aload_nS (pc := 193) rfl dL_law_193 ?_
      refine go_iload_n (pc := 194) rfl dL_law_194 ?_
      refine go_iconst (pc := 195) (v := 1) (by decide) dL_law_195 ?_
      refine go_iadd (pc := 196) dL_law_196 (go_topi (y := 1) (by decide) ?_)
      refine go_sldj (pc := 197) (i := 1) (j := 1) (L := 6) (fun b s q => q) rfl (by decide +kernel) (by decide +kernel) dL_law_197 ?_
      refine go_invV (pc := 198) (sl := 32419) (k27_X8_end l xs) mL_L_22 iM_X8_end sM_X8_end (g_shI (g_sh hpS rfl)) rfl rfl rfl (Nat.le_of_ble_eq_true rfl) (Nat.le_of_ble_eq_true rfl) (Nat.le_of_ble_eq_true rfl) (g_cl (g_lnI hpN) (Nat.le_of_ble_eq_true rfl)) (Nat.le_of_ble_eq_true rfl) dL_law_198 ?_
      intro r h' hq _
      rcases hq with ⟨q5, rfl, rfl⟩ | ⟨q5, q6, rfl, rfl⟩ | ⟨q5, q6, rfl, rfl⟩
      ·
        exfalso; have z0 : (0 : Int32).toInt = 0 := (by decide); simp only [Int32.lt_iff_toInt_lt, Int32.le_iff_toInt_le, ← Int32.toInt_inj, z0] at q3 q4 q5; omega
      ·
        exfalso; have z0 : (0 : Int32).toInt = 0 := (by decide); simp only [Int32.lt_iff_toInt_lt, Int32.le_iff_toInt_le, ← Int32.toInt_inj, z0] at q3 q4 q5 q6; omega
      ·
        refine go_icmp_eq (pc := 201) (tgt := 660) (by decide) dL_law_201 (fun _ => ?_) (fun q => absurd q (by decide))
        refine go_iincv (pc := 660) (y := 6) (Nat.le_of_ble_eq_true rfl) rfl (by decide) dL_law_660 (go_lv (lv2 := [(0, .retAddr 0), (1, .ref 0), (2, .ref 70), (3, .int 6)]) rfl ?_)
        refine go_goto (pc := 663) (tgt := 18) (by decide) dL_law_663 ?_
        refine go_iload_n (pc := 18) rfl dL_law_18 ?_
        refine go_aload_nS (pc := 19) rfl dL_law_19 ?_
        refine go_slen (pc := 20) (L := 6) (fun b s q => q) rfl dL_law_20 (go_topi (y := 6) (by decide +kernel) ?_)
        refine go_bipush (pc := 21) (v := 6) (by decide) dL_law_21 ?_
        refine go_isub (pc := 23) dL_law_23 (go_topi (y := 0) (by decide) ?_)
        refine go_icmp_gt (pc := 24) (tgt := 666) (by decide) dL_law_24 (fun _ => ?_) (fun q => absurd q (by decide))
        refine go_iconst (pc := 666) (v := 1) (by decide) dL_law_666 ?_
        exact go_iret (pc := 667) rfl rfl (g_lnI (g_lnI hpN)) (Nat.le_of_ble_eq_true rfl) dL_law_667
    ·
      refine go_aload_n (pc := 192) rfl dL_law_192 ?_
      refine go_aload_nS (pc := 193) rfl dL_law_193 ?_
      refine go_iload_n (pc := 194) rfl dL_law_194 ?_
      refine go_iconst (pc := 195) (v := 1) (by decide) dL_law_195 ?_
      refine go_iadd (pc := 196) dL_law_196 (go_topi (y := 1) (by decide) ?_)
      refine go_sldj (pc := 197) (i := 1) (j := 1) (L := 6) (fun b s q => q) rfl (by decide +kernel) (by decide +kernel) dL_law_197 ?_
      refine go_invV (pc := 198) (sl := 32419) (k25_X8_end l xs) mL_L_22 iM_X8_end sM_X8_end (g_sh hpS rfl) rfl rfl rfl (Nat.le_of_ble_eq_true rfl) (Nat.le_of_ble_eq_true rfl) (Nat.le_of_ble_eq_true rfl) (g_cl hpN (Nat.le_of_ble_eq_true rfl)) (Nat.le_of_ble_eq_true rfl) dL_law_198 ?_
      intro r h' hq _
      rcases hq with ⟨q5, rfl, rfl⟩ | ⟨q5, q6, rfl, rfl⟩ | ⟨q5, q6, rfl, rfl⟩
      ·
        exfalso; have z0 : (0 : Int32).toInt = 0 := (by decide); simp only [Int32.lt_iff_toInt_lt, Int32.le_iff_toInt_le, ← Int32.toInt_inj, z0] at q3 q4 q5; omega
      ·
        refine go_icmp_eq (pc := 201) (tgt := 660) (by decide) dL_law_201 (fun _ => ?_) (fun q => absurd q (by decide))
        refine go_iincv (pc := 660) (y := 6) (Nat.le_of_ble_eq_true rfl) rfl (by decide) dL_law_660 (go_lv (lv2 := [(0, .retAddr 0), (1, .ref 0), (2, .ref 70), (3, .int 6)]) rfl ?_)
        refine go_goto (pc := 663) (tgt := 18) (by decide) dL_law_663 ?_
        refine go_iload_n (pc := 18) rfl dL_law_18 ?_
        refine go_aload_nS (pc := 19) rfl dL_law_19 ?_
        refine go_slen (pc := 20) (L := 6) (fun b s q => q) rfl dL_law_20 (go_topi (y := 6) (by decide +kernel) ?_)
        refine go_bipush (pc := 21) (v := 6) (by decide) dL_law_21 ?_
        refine go_isub (pc := 23) dL_law_23 (go_topi (y := 0) (by decide) ?_)
        refine go_icmp_gt (pc := 24) (tgt := 666) (by decide) dL_law_24 (fun _ => ?_) (fun q => absurd q (by decide))
        refine go_iconst (pc := 666) (v := 1) (by decide) dL_law_666 ?_
        exact go_iret (pc := 667) rfl rfl hpN (Nat.le_of_ble_eq_true rfl) dL_law_667
      ·
        exfalso; have z0 : (0 : Int32).toInt = 0 := (by decide); simp only [Int32.lt_iff_toInt_lt, Int32.le_iff_toInt_le, ← Int32.toInt_inj, z0] at q3 q4 q5 q6; omega
  by_cases q3 : ((xs 0) &&& 31) = 2
  ·
    refine go_tableIn (pc := 33) (tgt := 206) (off := 173) (by rw [q3]; decide) (by rw [q3]; decide) (by rw [q3]; decide) (by decide) dL_law_33 ?_
    refine go_aload_n (pc := 206) rfl dL_law_206 ?_
    refine go_invV (pc := 207) (sl := 32419) (k35_X7_program l) mL_L_23 iM_X7_program sM_X7_program (g_sh hpS rfl) rfl rfl rfl (Nat.le_of_ble_eq_true rfl) (Nat.le_of_ble_eq_true rfl) (Nat.le_of_ble_eq_true rfl) (g_cl hpN (Nat.le_of_ble_eq_true rfl)) (Nat.le_of_ble_eq_true rfl) dL_law_207 ?_
    intro r h' hq _
    obtain ⟨rfl, rfl⟩ := hq
    refine go_aload_n (pc := 210) rfl dL_law_210 ?_
    refine go_invV (pc := 211) (sl := 32419) (k41_X8_program l) mL_L_27 iM_X8_program sM_X8_program (g_shI (g_shI (g_shI (g_shI (g_shI (g_shI (g_shL (g_shI (g_shI (g_shR (g_shI (g_shI (g_shI (g_shR (g_shI (g_sh hpS rfl)))))))))))))))) rfl rfl rfl (Nat.le_of_ble_eq_true rfl) (Nat.le_of_ble_eq_true rfl) (Nat.le_of_ble_eq_true rfl) (g_cl (g_lnI (g_lnI (g_lnI (g_lnI (g_lnI (g_lnI (g_lnL (g_lnI (g_lnI (g_lnR (g_lnI (g_lnI (g_lnI (g_lnR (g_lnI hpN))))))))))))))) (Nat.le_of_ble_eq_true rfl)) (Nat.le_of_ble_eq_true rfl) dL_law_211 ?_
    intro r h' hq _
    obtain ⟨rfl, rfl⟩ := hq
    refine go_icmp_eq (pc := 214) (tgt := 660) (by decide) dL_law_214 (fun _ => ?_) (fun q => absurd q (by decide))
    refine go_iincv (pc := 660) (y := 6) (Nat.le_of_ble_eq_true rfl) rfl (by decide) dL_law_660 (go_lv (lv2 := [(0, .retAddr 0), (1, .ref 0), (2, .ref 70), (3, .int 6)]) rfl ?_)
    refine go_goto (pc := 663) (tgt := 18) (by decide) dL_law_663 ?_
    refine go_iload_n (pc := 18) rfl dL_law_18 ?_
    refine go_aload_nS (pc := 19) rfl dL_law_19 ?_
    refine go_slen (pc := 20) (L := 6) (fun b s q => q) rfl dL_law_20 (go_topi (y := 6) (by decide +kernel) ?_)
    refine go_bipush (pc := 21) (v := 6) (by decide) dL_law_21 ?_
    refine go_isub (pc := 23) dL_law_23 (go_topi (y := 0) (by decide) ?_)
    refine go_icmp_gt (pc := 24) (tgt := 666) (by decide) dL_law_24 (fun _ => ?_) (fun q => absurd q (by decide))
    refine go_iconst (pc := 666) (v := 1) (by decide) dL_law_666 ?_
    exact go_iret (pc := 667) rfl rfl (g_lnI (g_lnI (g_lnI (g_lnI (g_lnI (g_lnI (g_lnI (g_lnI (g_lnI (g_lnI (g_lnI (g_lnI (g_lnI (g_lnI (g_lnI (g_lnI (g_lnL (g_lnI (g_lnI (g_lnR (g_lnI (g_lnI (g_lnI (g_lnR (g_lnI hpN))))))))))))))))))))))))) (Nat.le_of_ble_eq_true rfl) dL_law_667
  by_cases q4 : ((xs 0) &&& 31) = 3
  ·
    refine go_tableIn (pc := 33) (tgt := 219) (off := 186) (by rw [q4]; decide) (by rw [q4]; decide) (by rw [q4]; decide) (by decide) dL_law_33 ?_
    refine go_aload_n (pc := 219) rfl dL_law_219 ?_
    refine go_invV (pc := 220) (sl := 32419) (k42_X7_fault l) mL_L_28 iM_X7_fault sM_X7_fault (g_sh hpS rfl) rfl rfl rfl (Nat.le_of_ble_eq_true rfl) (Nat.le_of_ble_eq_true rfl) (Nat.le_of_ble_eq_true rfl) (g_cl hpN (Nat.le_of_ble_eq_true rfl)) (Nat.le_of_ble_eq_true rfl) dL_law_220 ?_
    intro r h' hq _
    obtain ⟨rfl, rfl⟩ := hq
    refine go_aload_n (pc := 223) rfl dL_law_223 ?_
    refine go_invV (pc := 224) (sl := 32419) (k43_X8_fault l) mL_L_31 iM_X8_fault sM_X8_fault (g_sh hpS rfl) rfl rfl rfl (Nat.le_of_ble_eq_true rfl) (Nat.le_of_ble_eq_true rfl) (Nat.le_of_ble_eq_true rfl) (g_cl hpN (Nat.le_of_ble_eq_true rfl)) (Nat.le_of_ble_eq_true rfl) dL_law_224 ?_
    intro r h' hq _
    obtain ⟨rfl, rfl⟩ := hq
    refine go_icmp_eq (pc := 227) (tgt := 660) (by decide) dL_law_227 (fun _ => ?_) (fun q => absurd q (by decide))
    refine go_iincv (pc := 660) (y := 6) (Nat.le_of_ble_eq_true rfl) rfl (by decide) dL_law_660 (go_lv (lv2 := [(0, .retAddr 0), (1, .ref 0), (2, .ref 70), (3, .int 6)]) rfl ?_)
    refine go_goto (pc := 663) (tgt := 18) (by decide) dL_law_663 ?_
    refine go_iload_n (pc := 18) rfl dL_law_18 ?_
    refine go_aload_nS (pc := 19) rfl dL_law_19 ?_
    refine go_slen (pc := 20) (L := 6) (fun b s q => q) rfl dL_law_20 (go_topi (y := 6) (by decide +kernel) ?_)
    refine go_bipush (pc := 21) (v := 6) (by decide) dL_law_21 ?_
    refine go_isub (pc := 23) dL_law_23 (go_topi (y := 0) (by decide) ?_)
    refine go_icmp_gt (pc := 24) (tgt := 666) (by decide) dL_law_24 (fun _ => ?_) (fun q => absurd q (by decide))
    refine go_iconst (pc := 666) (v := 1) (by decide) dL_law_666 ?_
    exact go_iret (pc := 667) rfl rfl hpN (Nat.le_of_ble_eq_true rfl) dL_law_667
  by_cases q5 : ((xs 0) &&& 31) = 4
  ·
    refine go_tableIn (pc := 33) (tgt := 232) (off := 199) (by rw [q5]; decide) (by rw [q5]; decide) (by rw [q5]; decide) (by decide) dL_law_33 ?_
    refine go_aload_n (pc := 232) rfl dL_law_232 ?_
    refine go_aload_nS (pc := 233) rfl dL_law_233 ?_
    refine go_iload_n (pc := 234) rfl dL_law_234 ?_
    refine go_iconst (pc := 235) (v := 1) (by decide) dL_law_235 ?_
    refine go_iadd (pc := 236) dL_law_236 (go_topi (y := 1) (by decide) ?_)
    refine go_sldj (pc := 237) (i := 1) (j := 1) (L := 6) (fun b s q => q) rfl (by decide +kernel) (by decide +kernel) dL_law_237 ?_
    refine go_invV (pc := 238) (sl := 32419) (k45_X7_count l xs) mL_L_32 iM_X7_count sM_X7_count (g_sh hpS rfl) rfl rfl rfl (Nat.le_of_ble_eq_true rfl) (Nat.le_of_ble_eq_true rfl) (Nat.le_of_ble_eq_true rfl) (g_cl hpN (Nat.le_of_ble_eq_true rfl)) (Nat.le_of_ble_eq_true rfl) dL_law_238 ?_
    intro r h' hq _
    rcases hq with ⟨q6, rfl, rfl⟩ | ⟨q6, q7, rfl, rfl⟩ | ⟨q6, q7, q8, rfl, rfl⟩ | ⟨q6, q7, q8, q9, rfl, rfl⟩ | ⟨q6, q7, q8, q9, q10, rfl, rfl⟩ | ⟨q6, q7, q8, q9, q10, q11, rfl, rfl⟩ | ⟨q6, q7, q8, q9, q10, q11, rfl, rfl⟩
    ·
      refine go_aload_n (pc := 241) rfl dL_law_241 ?_
      refine go_aload_nS (pc := 242) rfl dL_law_242 ?_
      refine go_iload_n (pc := 243) rfl dL_law_243 ?_
      refine go_iconst (pc := 244) (v := 1) (by decide) dL_law_244 ?_
      refine go_iadd (pc := 245) dL_law_245 (go_topi (y := 1) (by decide) ?_)
      refine go_sldj (pc := 246) (i := 1) (j := 1) (L := 6) (fun b s q => q) rfl (by decide +kernel) (by decide +kernel) dL_law_246 ?_
      refine go_invV (pc := 247) (sl := 32419) (k46_X8_count l xs) mL_L_36 iM_X8_count sM_X8_count (g_sh hpS rfl) rfl rfl rfl (Nat.le_of_ble_eq_true rfl) (Nat.le_of_ble_eq_true rfl) (Nat.le_of_ble_eq_true rfl) (g_cl hpN (Nat.le_of_ble_eq_true rfl)) (Nat.le_of_ble_eq_true rfl) dL_law_247 ?_
      intro r h' hq _
      rcases hq with ⟨q7, rfl, rfl⟩ | ⟨q7, q8, rfl, rfl⟩ | ⟨q7, q8, q9, rfl, rfl⟩ | ⟨q7, q8, q9, q10, rfl, rfl⟩ | ⟨q7, q8, q9, q10, q11, rfl, rfl⟩ | ⟨q7, q8, q9, q10, q11, q12, rfl, rfl⟩ | ⟨q7, q8, q9, q10, q11, q12, rfl, rfl⟩
      ·
        refine go_icmp_eq (pc := 250) (tgt := 660) (by decide) dL_law_250 (fun _ => ?_) (fun q => absurd q (by decide))
        refine go_iincv (pc := 660) (y := 6) (Nat.le_of_ble_eq_true rfl) rfl (by decide) dL_law_660 (go_lv (lv2 := [(0, .retAddr 0), (1, .ref 0), (2, .ref 70), (3, .int 6)]) rfl ?_)
        refine go_goto (pc := 663) (tgt := 18) (by decide) dL_law_663 ?_
        refine go_iload_n (pc := 18) rfl dL_law_18 ?_
        refine go_aload_nS (pc := 19) rfl dL_law_19 ?_
        refine go_slen (pc := 20) (L := 6) (fun b s q => q) rfl dL_law_20 (go_topi (y := 6) (by decide +kernel) ?_)
        refine go_bipush (pc := 21) (v := 6) (by decide) dL_law_21 ?_
        refine go_isub (pc := 23) dL_law_23 (go_topi (y := 0) (by decide) ?_)
        refine go_icmp_gt (pc := 24) (tgt := 666) (by decide) dL_law_24 (fun _ => ?_) (fun q => absurd q (by decide))
        refine go_iconst (pc := 666) (v := 1) (by decide) dL_law_666 ?_
        exact go_iret (pc := 667) rfl rfl (g_lnI hpN) (Nat.le_of_ble_eq_true rfl) dL_law_667
      ·
        exfalso; have z0 : (0 : Int32).toInt = 0 := (by decide); have z1 : (1 : Int32).toInt = 1 := (by decide); simp only [Int32.lt_iff_toInt_lt, Int32.le_iff_toInt_le, ← Int32.toInt_inj, z0, z1] at q6 q7 q8; omega
      ·
        exfalso; have z0 : (0 : Int32).toInt = 0 := (by decide); have z1 : (1 : Int32).toInt = 1 := (by decide); have z2 : (2 : Int32).toInt = 2 := (by decide); simp only [Int32.lt_iff_toInt_lt, Int32.le_iff_toInt_le, ← Int32.toInt_inj, z0, z1, z2] at q6 q7 q8 q9; omega
      ·
        exfalso; have z0 : (0 : Int32).toInt = 0 := (by decide); have z1 : (1 : Int32).toInt = 1 := (by decide); have z2 : (2 : Int32).toInt = 2 := (by decide); have z3 : (3 : Int32).toInt = 3 := (by decide); simp only [Int32.lt_iff_toInt_lt, Int32.le_iff_toInt_le, ← Int32.toInt_inj, z0, z1, z2, z3] at q6 q7 q8 q9 q10; omega
      ·
        exfalso; have z0 : (0 : Int32).toInt = 0 := (by decide); have z1 : (1 : Int32).toInt = 1 := (by decide); have z2 : (2 : Int32).toInt = 2 := (by decide); have z3 : (3 : Int32).toInt = 3 := (by decide); have z4 : (4 : Int32).toInt = 4 := (by decide); simp only [Int32.lt_iff_toInt_lt, Int32.le_iff_toInt_le, ← Int32.toInt_inj, z0, z1, z2, z3, z4] at q6 q7 q8 q9 q10 q11; omega
      ·
        exfalso; have z0 : (0 : Int32).toInt = 0 := (by decide); have z1 : (1 : Int32).toInt = 1 := (by decide); have z2 : (2 : Int32).toInt = 2 := (by decide); have z3 : (3 : Int32).toInt = 3 := (by decide); have z4 : (4 : Int32).toInt = 4 := (by decide); have z5 : (5 : Int32).toInt = 5 := (by decide); simp only [Int32.lt_iff_toInt_lt, Int32.le_iff_toInt_le, ← Int32.toInt_inj, z0, z1, z2, z3, z4, z5] at q6 q7 q8 q9 q10 q11 q12; omega
      ·
        exfalso; have z0 : (0 : Int32).toInt = 0 := (by decide); have z1 : (1 : Int32).toInt = 1 := (by decide); have z2 : (2 : Int32).toInt = 2 := (by decide); have z3 : (3 : Int32).toInt = 3 := (by decide); have z4 : (4 : Int32).toInt = 4 := (by decide); have z5 : (5 : Int32).toInt = 5 := (by decide); simp only [Int32.lt_iff_toInt_lt, Int32.le_iff_toInt_le, ← Int32.toInt_inj, z0, z1, z2, z3, z4, z5] at q6 q7 q8 q9 q10 q11 q12; omega
    ·
      refine go_aload_n (pc := 241) rfl dL_law_241 ?_
      refine go_aload_nS (pc := 242) rfl dL_law_242 ?_
      refine go_iload_n (pc := 243) rfl dL_law_243 ?_
      refine go_iconst (pc := 244) (v := 1) (by decide) dL_law_244 ?_
      refine go_iadd (pc := 245) dL_law_245 (go_topi (y := 1) (by decide) ?_)
      refine go_sldj (pc := 246) (i := 1) (j := 1) (L := 6) (fun b s q => q) rfl (by decide +kernel) (by decide +kernel) dL_law_246 ?_
      refine go_invV (pc := 247) (sl := 32419) (k46_X8_count l xs) mL_L_36 iM_X8_count sM_X8_count (g_sh hpS rfl) rfl rfl rfl (Nat.le_of_ble_eq_true rfl) (Nat.le_of_ble_eq_true rfl) (Nat.le_of_ble_eq_true rfl) (g_cl hpN (Nat.le_of_ble_eq_true rfl)) (Nat.le_of_ble_eq_true rfl) dL_law_247 ?_
      intro r h' hq _
      rcases hq with ⟨q8, rfl, rfl⟩ | ⟨q8, q9, rfl, rfl⟩ | ⟨q8, q9, q10, rfl, rfl⟩ | ⟨q8, q9, q10, q11, rfl, rfl⟩ | ⟨q8, q9, q10, q11, q12, rfl, rfl⟩ | ⟨q8, q9, q10, q11, q12, q13, rfl, rfl⟩ | ⟨q8, q9, q10, q11, q12, q13, rfl, rfl⟩
      ·
        exfalso; have z0 : (0 : Int32).toInt = 0 := (by decide); have z1 : (1 : Int32).toInt = 1 := (by decide); simp only [Int32.lt_iff_toInt_lt, Int32.le_iff_toInt_le, ← Int32.toInt_inj, z0, z1] at q6 q7 q8; omega
      ·
        refine go_icmp_eq (pc := 250) (tgt := 660) (by decide) dL_law_250 (fun _ => ?_) (fun q => absurd q (by decide))
        refine go_iincv (pc := 660) (y := 6) (Nat.le_of_ble_eq_true rfl) rfl (by decide) dL_law_660 (go_lv (lv2 := [(0, .retAddr 0), (1, .ref 0), (2, .ref 70), (3, .int 6)]) rfl ?_)
        refine go_goto (pc := 663) (tgt := 18) (by decide) dL_law_663 ?_
        refine go_iload_n (pc := 18) rfl dL_law_18 ?_
        refine go_aload_nS (pc := 19) rfl dL_law_19 ?_
        refine go_slen (pc := 20) (L := 6) (fun b s q => q) rfl dL_law_20 (go_topi (y := 6) (by decide +kernel) ?_)
        refine go_bipush (pc := 21) (v := 6) (by decide) dL_law_21 ?_
        refine go_isub (pc := 23) dL_law_23 (go_topi (y := 0) (by decide) ?_)
        refine go_icmp_gt (pc := 24) (tgt := 666) (by decide) dL_law_24 (fun _ => ?_) (fun q => absurd q (by decide))
        refine go_iconst (pc := 666) (v := 1) (by decide) dL_law_666 ?_
        exact go_iret (pc := 667) rfl rfl (g_lnI hpN) (Nat.le_of_ble_eq_true rfl) dL_law_667
      ·
        exfalso; have z0 : (0 : Int32).toInt = 0 := (by decide); have z1 : (1 : Int32).toInt = 1 := (by decide); have z2 : (2 : Int32).toInt = 2 := (by decide); simp only [Int32.lt_iff_toInt_lt, Int32.le_iff_toInt_le, ← Int32.toInt_inj, z0, z1, z2] at q6 q7 q8 q9 q10; omega
      ·
        exfalso; have z0 : (0 : Int32).toInt = 0 := (by decide); have z1 : (1 : Int32).toInt = 1 := (by decide); have z2 : (2 : Int32).toInt = 2 := (by decide); have z3 : (3 : Int32).toInt = 3 := (by decide); simp only [Int32.lt_iff_toInt_lt, Int32.le_iff_toInt_le, ← Int32.toInt_inj, z0, z1, z2, z3] at q6 q7 q8 q9 q10 q11; omega
      ·
        exfalso; have z0 : (0 : Int32).toInt = 0 := (by decide); have z1 : (1 : Int32).toInt = 1 := (by decide); have z2 : (2 : Int32).toInt = 2 := (by decide); have z3 : (3 : Int32).toInt = 3 := (by decide); have z4 : (4 : Int32).toInt = 4 := (by decide); simp only [Int32.lt_iff_toInt_lt, Int32.le_iff_toInt_le, ← Int32.toInt_inj, z0, z1, z2, z3, z4] at q6 q7 q8 q9 q10 q11 q12; omega
      ·
        exfalso; have z0 : (0 : Int32).toInt = 0 := (by decide); have z1 : (1 : Int32).toInt = 1 := (by decide); have z2 : (2 : Int32).toInt = 2 := (by decide); have z3 : (3 : Int32).toInt = 3 := (by decide); have z4 : (4 : Int32).toInt = 4 := (by decide); have z5 : (5 : Int32).toInt = 5 := (by decide); simp only [Int32.lt_iff_toInt_lt, Int32.le_iff_toInt_le, ← Int32.toInt_inj, z0, z1, z2, z3, z4, z5] at q6 q7 q8 q9 q10 q11 q12 q13; omega
      ·
        exfalso; have z0 : (0 : Int32).toInt = 0 := (by decide); have z1 : (1 : Int32).toInt = 1 := (by decide); have z2 : (2 : Int32).toInt = 2 := (by decide); have z3 : (3 : Int32).toInt = 3 := (by decide); have z4 : (4 : Int32).toInt = 4 := (by decide); have z5 : (5 : Int32).toInt = 5 := (by decide); simp only [Int32.lt_iff_toInt_lt, Int32.le_iff_toInt_le, ← Int32.toInt_inj, z0, z1, z2, z3, z4, z5] at q6 q7 q8 q9 q10 q11 q12 q13; omega
    ·
      refine go_aload_n (pc := 241) rfl dL_law_241 ?_
      refine go_aload_nS (pc := 242) rfl dL_law_242 ?_
      refine go_iload_n (pc := 243) rfl dL_law_243 ?_
      refine go_iconst (pc := 244) (v := 1) (by decide) dL_law_244 ?_
      refine go_iadd (pc := 245) dL_law_245 (go_topi (y := 1) (by decide) ?_)
      refine go_sldj (pc := 246) (i := 1) (j := 1) (L := 6) (fun b s q => q) rfl (by decide +kernel) (by decide +kernel) dL_law_246 ?_
      refine go_invV (pc := 247) (sl := 32419) (k46_X8_count l xs) mL_L_36 iM_X8_count sM_X8_count (g_sh hpS rfl) rfl rfl rfl (Nat.le_of_ble_eq_true rfl) (Nat.le_of_ble_eq_true rfl) (Nat.le_of_ble_eq_true rfl) (g_cl hpN (Nat.le_of_ble_eq_true rfl)) (Nat.le_of_ble_eq_true rfl) dL_law_247 ?_
      intro r h' hq _
      rcases hq with ⟨q9, rfl, rfl⟩ | ⟨q9, q10, rfl, rfl⟩ | ⟨q9, q10, q11, rfl, rfl⟩ | ⟨q9, q10, q11, q12, rfl, rfl⟩ | ⟨q9, q10, q11, q12, q13, rfl, rfl⟩ | ⟨q9, q10, q11, q12, q13, q14, rfl, rfl⟩ | ⟨q9, q10, q11, q12, q13, q14, rfl, rfl⟩
      ·
        exfalso; have z0 : (0 : Int32).toInt = 0 := (by decide); have z1 : (1 : Int32).toInt = 1 := (by decide); have z2 : (2 : Int32).toInt = 2 := (by decide); simp only [Int32.lt_iff_toInt_lt, Int32.le_iff_toInt_le, ← Int32.toInt_inj, z0, z1, z2] at q6 q7 q8 q9; omega
      ·
        exfalso; have z0 : (0 : Int32).toInt = 0 := (by decide); have z1 : (1 : Int32).toInt = 1 := (by decide); have z2 : (2 : Int32).toInt = 2 := (by decide); simp only [Int32.lt_iff_toInt_lt, Int32.le_iff_toInt_le, ← Int32.toInt_inj, z0, z1, z2] at q6 q7 q8 q9 q10; omega
      ·
        refine go_icmp_eq (pc := 250) (tgt := 660) (by decide) dL_law_250 (fun _ => ?_) (fun q => absurd q (by decide))
        refine go_iincv (pc := 660) (y := 6) (Nat.le_of_ble_eq_true rfl) rfl (by decide) dL_law_660 (go_lv (lv2 := [(0, .retAddr 0), (1, .ref 0), (2, .ref 70), (3, .int 6)]) rfl ?_)
        refine go_goto (pc := 663) (tgt := 18) (by decide) dL_law_663 ?_
        refine go_iload_n (pc := 18) rfl dL_law_18 ?_
        refine go_aload_nS (pc := 19) rfl dL_law_19 ?_
        refine go_slen (pc := 20) (L := 6) (fun b s q => q) rfl dL_law_20 (go_topi (y := 6) (by decide +kernel) ?_)
        refine go_bipush (pc := 21) (v := 6) (by decide) dL_law_21 ?_
        refine go_isub (pc := 23) dL_law_23 (go_topi (y := 0) (by decide) ?_)
        refine go_icmp_gt (pc := 24) (tgt := 666) (by decide) dL_law_24 (fun _ => ?_) (fun q => absurd q (by decide))
        refine go_iconst (pc := 666) (v := 1) (by decide) dL_law_666 ?_
        exact go_iret (pc := 667) rfl rfl (g_lnI hpN) (Nat.le_of_ble_eq_true rfl) dL_law_667
      ·
        exfalso; have z0 : (0 : Int32).toInt = 0 := (by decide); have z1 : (1 : Int32).toInt = 1 := (by decide); have z2 : (2 : Int32).toInt = 2 := (by decide); have z3 : (3 : Int32).toInt = 3 := (by decide); simp only [Int32.lt_iff_toInt_lt, Int32.le_iff_toInt_le, ← Int32.toInt_inj, z0, z1, z2, z3] at q6 q7 q8 q9 q10 q11 q12; omega
      ·
        exfalso; have z0 : (0 : Int32).toInt = 0 := (by decide); have z1 : (1 : Int32).toInt = 1 := (by decide); have z2 : (2 : Int32).toInt = 2 := (by decide); have z3 : (3 : Int32).toInt = 3 := (by decide); have z4 : (4 : Int32).toInt = 4 := (by decide); simp only [Int32.lt_iff_toInt_lt, Int32.le_iff_toInt_le, ← Int32.toInt_inj, z0, z1, z2, z3, z4] at q6 q7 q8 q9 q10 q11 q12 q13; omega
      ·
        exfalso; have z0 : (0 : Int32).toInt = 0 := (by decide); have z1 : (1 : Int32).toInt = 1 := (by decide); have z2 : (2 : Int32).toInt = 2 := (by decide); have z3 : (3 : Int32).toInt = 3 := (by decide); have z4 : (4 : Int32).toInt = 4 := (by decide); have z5 : (5 : Int32).toInt = 5 := (by decide); simp only [Int32.lt_iff_toInt_lt, Int32.le_iff_toInt_le, ← Int32.toInt_inj, z0, z1, z2, z3, z4, z5] at q6 q7 q8 q9 q10 q11 q12 q13 q14; omega
      ·
        exfalso; have z0 : (0 : Int32).toInt = 0 := (by decide); have z1 : (1 : Int32).toInt = 1 := (by decide); have z2 : (2 : Int32).toInt = 2 := (by decide); have z3 : (3 : Int32).toInt = 3 := (by decide); have z4 : (4 : Int32).toInt = 4 := (by decide); have z5 : (5 : Int32).toInt = 5 := (by decide); simp only [Int32.lt_iff_toInt_lt, Int32.le_iff_toInt_le, ← Int32.toInt_inj, z0, z1, z2, z3, z4, z5] at q6 q7 q8 q9 q10 q11 q12 q13 q14; omega
    ·
      refine go_aload_n (pc := 241) rfl dL_law_241 ?_
      refine go_aload_nS (pc := 242) rfl dL_law_242 ?_
      refine go_iload_n (pc := 243) rfl dL_law_243 ?_
      refine go_iconst (pc := 244) (v := 1) (by decide) dL_law_244 ?_
      refine go_iadd (pc := 245) dL_law_245 (go_topi (y := 1) (by decide) ?_)
      refine go_sldj (pc := 246) (i := 1) (j := 1) (L := 6) (fun b s q => q) rfl (by decide +kernel) (by decide +kernel) dL_law_246 ?_
      refine go_invV (pc := 247) (sl := 32419) (k46_X8_count l xs) mL_L_36 iM_X8_count sM_X8_count (g_sh hpS rfl) rfl rfl rfl (Nat.le_of_ble_eq_true rfl) (Nat.le_of_ble_eq_true rfl) (Nat.le_of_ble_eq_true rfl) (g_cl hpN (Nat.le_of_ble_eq_true rfl)) (Nat.le_of_ble_eq_true rfl) dL_law_247 ?_
      intro r h' hq _
      rcases hq with ⟨q10, rfl, rfl⟩ | ⟨q10, q11, rfl, rfl⟩ | ⟨q10, q11, q12, rfl, rfl⟩ | ⟨q10, q11, q12, q13, rfl, rfl⟩ | ⟨q10, q11, q12, q13, q14, rfl, rfl⟩ | ⟨q10, q11, q12, q13, q14, q15, rfl, rfl⟩ | ⟨q10, q11, q12, q13, q14, q15, rfl, rfl⟩
      ·
        exfalso; have z0 : (0 : Int32).toInt = 0 := (by decide); have z1 : (1 : Int32).toInt = 1 := (by decide); have z2 : (2 : Int32).toInt = 2 := (by decide); have z3 : (3 : Int32).toInt = 3 := (by decide); simp only [Int32.lt_iff_toInt_lt, Int32.le_iff_toInt_le, ← Int32.toInt_inj, z0, z1, z2, z3] at q6 q7 q8 q9 q10; omega
      ·
        exfalso; have z0 : (0 : Int32).toInt = 0 := (by decide); have z1 : (1 : Int32).toInt = 1 := (by decide); have z2 : (2 : Int32).toInt = 2 := (by decide); have z3 : (3 : Int32).toInt = 3 := (by decide); simp only [Int32.lt_iff_toInt_lt, Int32.le_iff_toInt_le, ← Int32.toInt_inj, z0, z1, z2, z3] at q6 q7 q8 q9 q10 q11; omega
      ·
        exfalso; have z0 : (0 : Int32).toInt = 0 := (by decide); have z1 : (1 : Int32).toInt = 1 := (by decide); have z2 : (2 : Int32).toInt = 2 := (by decide); have z3 : (3 : Int32).toInt = 3 := (by decide); simp only [Int32.lt_iff_toInt_lt, Int32.le_iff_toInt_le, ← Int32.toInt_inj, z0, z1, z2, z3] at q6 q7 q8 q9 q10 q11 q12; omega
      ·
        refine go_icmp_eq (pc := 250) (tgt := 660) (by decide) dL_law_250 (fun _ => ?_) (fun q => absurd q (by decide))
        refine go_iincv (pc := 660) (y := 6) (Nat.le_of_ble_eq_true rfl) rfl (by decide) dL_law_660 (go_lv (lv2 := [(0, .retAddr 0), (1, .ref 0), (2, .ref 70), (3, .int 6)]) rfl ?_)
        refine go_goto (pc := 663) (tgt := 18) (by decide) dL_law_663 ?_
        refine go_iload_n (pc := 18) rfl dL_law_18 ?_
        refine go_aload_nS (pc := 19) rfl dL_law_19 ?_
        refine go_slen (pc := 20) (L := 6) (fun b s q => q) rfl dL_law_20 (go_topi (y := 6) (by decide +kernel) ?_)
        refine go_bipush (pc := 21) (v := 6) (by decide) dL_law_21 ?_
        refine go_isub (pc := 23) dL_law_23 (go_topi (y := 0) (by decide) ?_)
        refine go_icmp_gt (pc := 24) (tgt := 666) (by decide) dL_law_24 (fun _ => ?_) (fun q => absurd q (by decide))
        refine go_iconst (pc := 666) (v := 1) (by decide) dL_law_666 ?_
        exact go_iret (pc := 667) rfl rfl (g_lnI hpN) (Nat.le_of_ble_eq_true rfl) dL_law_667
      ·
        exfalso; have z0 : (0 : Int32).toInt = 0 := (by decide); have z1 : (1 : Int32).toInt = 1 := (by decide); have z2 : (2 : Int32).toInt = 2 := (by decide); have z3 : (3 : Int32).toInt = 3 := (by decide); have z4 : (4 : Int32).toInt = 4 := (by decide); simp only [Int32.lt_iff_toInt_lt, Int32.le_iff_toInt_le, ← Int32.toInt_inj, z0, z1, z2, z3, z4] at q6 q7 q8 q9 q10 q11 q12 q13 q14; omega
      ·
        exfalso; have z0 : (0 : Int32).toInt = 0 := (by decide); have z1 : (1 : Int32).toInt = 1 := (by decide); have z2 : (2 : Int32).toInt = 2 := (by decide); have z3 : (3 : Int32).toInt = 3 := (by decide); have z4 : (4 : Int32).toInt = 4 := (by decide); have z5 : (5 : Int32).toInt = 5 := (by decide); simp only [Int32.lt_iff_toInt_lt, Int32.le_iff_toInt_le, ← Int32.toInt_inj, z0, z1, z2, z3, z4, z5] at q6 q7 q8 q9 q10 q11 q12 q13 q14 q15; omega
      ·
        exfalso; have z0 : (0 : Int32).toInt = 0 := (by decide); have z1 : (1 : Int32).toInt = 1 := (by decide); have z2 : (2 : Int32).toInt = 2 := (by decide); have z3 : (3 : Int32).toInt = 3 := (by decide); have z4 : (4 : Int32).toInt = 4 := (by decide); have z5 : (5 : Int32).toInt = 5 := (by decide); simp only [Int32.lt_iff_toInt_lt, Int32.le_iff_toInt_le, ← Int32.toInt_inj, z0, z1, z2, z3, z4, z5] at q6 q7 q8 q9 q10 q11 q12 q13 q14 q15; omega
    ·
      refine go_aload_n (pc := 241) rfl dL_law_241 ?_
      refine go_aload_nS (pc := 242) rfl dL_law_242 ?_
      refine go_iload_n (pc := 243) rfl dL_law_243 ?_
      refine go_iconst (pc := 244) (v := 1) (by decide) dL_law_244 ?_
      refine go_iadd (pc := 245) dL_law_245 (go_topi (y := 1) (by decide) ?_)
      refine go_sldj (pc := 246) (i := 1) (j := 1) (L := 6) (fun b s q => q) rfl (by decide +kernel) (by decide +kernel) dL_law_246 ?_
      refine go_invV (pc := 247) (sl := 32419) (k46_X8_count l xs) mL_L_36 iM_X8_count sM_X8_count (g_sh hpS rfl) rfl rfl rfl (Nat.le_of_ble_eq_true rfl) (Nat.le_of_ble_eq_true rfl) (Nat.le_of_ble_eq_true rfl) (g_cl hpN (Nat.le_of_ble_eq_true rfl)) (Nat.le_of_ble_eq_true rfl) dL_law_247 ?_
      intro r h' hq _
      rcases hq with ⟨q11, rfl, rfl⟩ | ⟨q11, q12, rfl, rfl⟩ | ⟨q11, q12, q13, rfl, rfl⟩ | ⟨q11, q12, q13, q14, rfl, rfl⟩ | ⟨q11, q12, q13, q14, q15, rfl, rfl⟩ | ⟨q11, q12, q13, q14, q15, q16, rfl, rfl⟩ | ⟨q11, q12, q13, q14, q15, q16, rfl, rfl⟩
      ·
        exfalso; have z0 : (0 : Int32).toInt = 0 := (by decide); have z1 : (1 : Int32).toInt = 1 := (by decide); have z2 : (2 : Int32).toInt = 2 := (by decide); have z3 : (3 : Int32).toInt = 3 := (by decide); have z4 : (4 : Int32).toInt = 4 := (by decide); simp only [Int32.lt_iff_toInt_lt, Int32.le_iff_toInt_le, ← Int32.toInt_inj, z0, z1, z2, z3, z4] at q6 q7 q8 q9 q10 q11; omega
      ·
        exfalso; have z0 : (0 : Int32).toInt = 0 := (by decide); have z1 : (1 : Int32).toInt = 1 := (by decide); have z2 : (2 : Int32).toInt = 2 := (by decide); have z3 : (3 : Int32).toInt = 3 := (by decide); have z4 : (4 : Int32).toInt = 4 := (by decide); simp only [Int32.lt_iff_toInt_lt, Int32.le_iff_toInt_le, ← Int32.toInt_inj, z0, z1, z2, z3, z4] at q6 q7 q8 q9 q10 q11 q12; omega
      ·
        exfalso; have z0 : (0 : Int32).toInt = 0 := (by decide); have z1 : (1 : Int32).toInt = 1 := (by decide); have z2 : (2 : Int32).toInt = 2 := (by decide); have z3 : (3 : Int32).toInt = 3 := (by decide); have z4 : (4 : Int32).toInt = 4 := (by decide); simp only [Int32.lt_iff_toInt_lt, Int32.le_iff_toInt_le, ← Int32.toInt_inj, z0, z1, z2, z3, z4] at q6 q7 q8 q9 q10 q11 q12 q13; omega
      ·
        exfalso; have z0 : (0 : Int32).toInt = 0 := (by decide); have z1 : (1 : Int32).toInt = 1 := (by decide); have z2 : (2 : Int32).toInt = 2 := (by decide); have z3 : (3 : Int32).toInt = 3 := (by decide); have z4 : (4 : Int32).toInt = 4 := (by decide); simp only [Int32.lt_iff_toInt_lt, Int32.le_iff_toInt_le, ← Int32.toInt_inj, z0, z1, z2, z3, z4] at q6 q7 q8 q9 q10 q11 q12 q13 q14; omega
      ·
        refine go_icmp_eq (pc := 250) (tgt := 660) (by decide) dL_law_250 (fun _ => ?_) (fun q => absurd q (by decide))
        refine go_iincv (pc := 660) (y := 6) (Nat.le_of_ble_eq_true rfl) rfl (by decide) dL_law_660 (go_lv (lv2 := [(0, .retAddr 0), (1, .ref 0), (2, .ref 70), (3, .int 6)]) rfl ?_)
        refine go_goto (pc := 663) (tgt := 18) (by decide) dL_law_663 ?_
        refine go_iload_n (pc := 18) rfl dL_law_18 ?_
        refine go_aload_nS (pc := 19) rfl dL_law_19 ?_
        refine go_slen (pc := 20) (L := 6) (fun b s q => q) rfl dL_law_20 (go_topi (y := 6) (by decide +kernel) ?_)
        refine go_bipush (pc := 21) (v := 6) (by decide) dL_law_21 ?_
        refine go_isub (pc := 23) dL_law_23 (go_topi (y := 0) (by decide) ?_)
        refine go_icmp_gt (pc := 24) (tgt := 666) (by decide) dL_law_24 (fun _ => ?_) (fun q => absurd q (by decide))
        refine go_iconst (pc := 666) (v := 1) (by decide) dL_law_666 ?_
        exact go_iret (pc := 667) rfl rfl (g_lnI hpN) (Nat.le_of_ble_eq_true rfl) dL_law_667
      ·
        exfalso; have z0 : (0 : Int32).toInt = 0 := (by decide); have z1 : (1 : Int32).toInt = 1 := (by decide); have z2 : (2 : Int32).toInt = 2 := (by decide); have z3 : (3 : Int32).toInt = 3 := (by decide); have z4 : (4 : Int32).toInt = 4 := (by decide); have z5 : (5 : Int32).toInt = 5 := (by decide); simp only [Int32.lt_iff_toInt_lt, Int32.le_iff_toInt_le, ← Int32.toInt_inj, z0, z1, z2, z3, z4, z5] at q6 q7 q8 q9 q10 q11 q12 q13 q14 q15 q16; omega
      ·
        exfalso; have z0 : (0 : Int32).toInt = 0 := (by decide); have z1 : (1 : Int32).toInt = 1 := (by decide); have z2 : (2 : Int32).toInt = 2 := (by decide); have z3 : (3 : Int32).toInt = 3 := (by decide); have z4 : (4 : Int32).toInt = 4 := (by decide); have z5 : (5 : Int32).toInt = 5 := (by decide); simp only [Int32.lt_iff_toInt_lt, Int32.le_iff_toInt_le, ← Int32.toInt_inj, z0, z1, z2, z3, z4, z5] at q6 q7 q8 q9 q10 q11 q12 q13 q14 q15 q16; omega
    ·
      refine go_aload_n (pc := 241) rfl dL_law_241 ?_
      refine go_aload_nS (pc := 242) rfl dL_law_242 ?_
      refine go_iload_n (pc := 243) rfl dL_law_243 ?_
      refine go_iconst (pc := 244) (v := 1) (by decide) dL_law_244 ?_
      refine go_iadd (pc := 245) dL_law_245 (go_topi (y := 1) (by decide) ?_)
      refine go_sldj (pc := 246) (i := 1) (j := 1) (L := 6) (fun b s q => q) rfl (by decide +kernel) (by decide +kernel) dL_law_246 ?_
      refine go_invV (pc := 247) (sl := 32419) (k46_X8_count l xs) mL_L_36 iM_X8_count sM_X8_count (g_sh hpS rfl) rfl rfl rfl (Nat.le_of_ble_eq_true rfl) (Nat.le_of_ble_eq_true rfl) (Nat.le_of_ble_eq_true rfl) (g_cl hpN (Nat.le_of_ble_eq_true rfl)) (Nat.le_of_ble_eq_true rfl) dL_law_247 ?_
      intro r h' hq _
      rcases hq with ⟨q12, rfl, rfl⟩ | ⟨q12, q13, rfl, rfl⟩ | ⟨q12, q13, q14, rfl, rfl⟩ | ⟨q12, q13, q14, q15, rfl, rfl⟩ | ⟨q12, q13, q14, q15, q16, rfl, rfl⟩ | ⟨q12, q13, q14, q15, q16, q17, rfl, rfl⟩ | ⟨q12, q13, q14, q15, q16, q17, rfl, rfl⟩
      ·
        exfalso; have z0 : (0 : Int32).toInt = 0 := (by decide); have z1 : (1 : Int32).toInt = 1 := (by decide); have z2 : (2 : Int32).toInt = 2 := (by decide); have z3 : (3 : Int32).toInt = 3 := (by decide); have z4 : (4 : Int32).toInt = 4 := (by decide); have z5 : (5 : Int32).toInt = 5 := (by decide); simp only [Int32.lt_iff_toInt_lt, Int32.le_iff_toInt_le, ← Int32.toInt_inj, z0, z1, z2, z3, z4, z5] at q6 q7 q8 q9 q10 q11 q12; omega
      ·
        exfalso; have z0 : (0 : Int32).toInt = 0 := (by decide); have z1 : (1 : Int32).toInt = 1 := (by decide); have z2 : (2 : Int32).toInt = 2 := (by decide); have z3 : (3 : Int32).toInt = 3 := (by decide); have z4 : (4 : Int32).toInt = 4 := (by decide); have z5 : (5 : Int32).toInt = 5 := (by decide); simp only [Int32.lt_iff_toInt_lt, Int32.le_iff_toInt_le, ← Int32.toInt_inj, z0, z1, z2, z3, z4, z5] at q6 q7 q8 q9 q10 q11 q12 q13; omega
      ·
        exfalso; have z0 : (0 : Int32).toInt = 0 := (by decide); have z1 : (1 : Int32).toInt = 1 := (by decide); have z2 : (2 : Int32).toInt = 2 := (by decide); have z3 : (3 : Int32).toInt = 3 := (by decide); have z4 : (4 : Int32).toInt = 4 := (by decide); have z5 : (5 : Int32).toInt = 5 := (by decide); simp only [Int32.lt_iff_toInt_lt, Int32.le_iff_toInt_le, ← Int32.toInt_inj, z0, z1, z2, z3, z4, z5] at q6 q7 q8 q9 q10 q11 q12 q13 q14; omega
      ·
        exfalso; have z0 : (0 : Int32).toInt = 0 := (by decide); have z1 : (1 : Int32).toInt = 1 := (by decide); have z2 : (2 : Int32).toInt = 2 := (by decide); have z3 : (3 : Int32).toInt = 3 := (by decide); have z4 : (4 : Int32).toInt = 4 := (by decide); have z5 : (5 : Int32).toInt = 5 := (by decide); simp only [Int32.lt_iff_toInt_lt, Int32.le_iff_toInt_le, ← Int32.toInt_inj, z0, z1, z2, z3, z4, z5] at q6 q7 q8 q9 q10 q11 q12 q13 q14 q15; omega
      ·
        exfalso; have z0 : (0 : Int32).toInt = 0 := (by decide); have z1 : (1 : Int32).toInt = 1 := (by decide); have z2 : (2 : Int32).toInt = 2 := (by decide); have z3 : (3 : Int32).toInt = 3 := (by decide); have z4 : (4 : Int32).toInt = 4 := (by decide); have z5 : (5 : Int32).toInt = 5 := (by decide); simp only [Int32.lt_iff_toInt_lt, Int32.le_iff_toInt_le, ← Int32.toInt_inj, z0, z1, z2, z3, z4, z5] at q6 q7 q8 q9 q10 q11 q12 q13 q14 q15 q16; omega
      ·
        refine go_icmp_eq (pc := 250) (tgt := 660) (by decide) dL_law_250 (fun _ => ?_) (fun q => absurd q (by decide))
        refine go_iincv (pc := 660) (y := 6) (Nat.le_of_ble_eq_true rfl) rfl (by decide) dL_law_660 (go_lv (lv2 := [(0, .retAddr 0), (1, .ref 0), (2, .ref 70), (3, .int 6)]) rfl ?_)
        refine go_goto (pc := 663) (tgt := 18) (by decide) dL_law_663 ?_
        refine go_iload_n (pc := 18) rfl dL_law_18 ?_
        refine go_aload_nS (pc := 19) rfl dL_law_19 ?_
        refine go_slen (pc := 20) (L := 6) (fun b s q => q) rfl dL_law_20 (go_topi (y := 6) (by decide +kernel) ?_)
        refine go_bipush (pc := 21) (v := 6) (by decide) dL_law_21 ?_
        refine go_isub (pc := 23) dL_law_23 (go_topi (y := 0) (by decide) ?_)
        refine go_icmp_gt (pc := 24) (tgt := 666) (by decide) dL_law_24 (fun _ => ?_) (fun q => absurd q (by decide))
        refine go_iconst (pc := 666) (v := 1) (by decide) dL_law_666 ?_
        exact go_iret (pc := 667) rfl rfl (g_lnI hpN) (Nat.le_of_ble_eq_true rfl) dL_law_667
      ·
        exfalso; have z0 : (0 : Int32).toInt = 0 := (by decide); have z1 : (1 : Int32).toInt = 1 := (by decide); have z2 : (2 : Int32).toInt = 2 := (by decide); have z3 : (3 : Int32).toInt = 3 := (by decide); have z4 : (4 : Int32).toInt = 4 := (by decide); have z5 : (5 : Int32).toInt = 5 := (by decide); simp only [Int32.lt_iff_toInt_lt, Int32.le_iff_toInt_le, ← Int32.toInt_inj, z0, z1, z2, z3, z4, z5] at q6 q7 q8 q9 q10 q11 q12 q13 q14 q15 q16 q17; omega
    ·
      refine go_aload_n (pc := 241) rfl dL_law_241 ?_
      refine go_aload_nS (pc := 242) rfl dL_law_242 ?_
      refine go_iload_n (pc := 243) rfl dL_law_243 ?_
      refine go_iconst (pc := 244) (v := 1) (by decide) dL_law_244 ?_
      refine go_iadd (pc := 245) dL_law_245 (go_topi (y := 1) (by decide) ?_)
      refine go_sldj (pc := 246) (i := 1) (j := 1) (L := 6) (fun b s q => q) rfl (by decide +kernel) (by decide +kernel) dL_law_246 ?_
      refine go_invV (pc := 247) (sl := 32419) (k46_X8_count l xs) mL_L_36 iM_X8_count sM_X8_count (g_sh hpS rfl) rfl rfl rfl (Nat.le_of_ble_eq_true rfl) (Nat.le_of_ble_eq_true rfl) (Nat.le_of_ble_eq_true rfl) (g_cl hpN (Nat.le_of_ble_eq_true rfl)) (Nat.le_of_ble_eq_true rfl) dL_law_247 ?_
      intro r h' hq _
      rcases hq with ⟨q12, rfl, rfl⟩ | ⟨q12, q13, rfl, rfl⟩ | ⟨q12, q13, q14, rfl, rfl⟩ | ⟨q12, q13, q14, q15, rfl, rfl⟩ | ⟨q12, q13, q14, q15, q16, rfl, rfl⟩ | ⟨q12, q13, q14, q15, q16, q17, rfl, rfl⟩ | ⟨q12, q13, q14, q15, q16, q17, rfl, rfl⟩
      ·
        exfalso; have z0 : (0 : Int32).toInt = 0 := (by decide); have z1 : (1 : Int32).toInt = 1 := (by decide); have z2 : (2 : Int32).toInt = 2 := (by decide); have z3 : (3 : Int32).toInt = 3 := (by decide); have z4 : (4 : Int32).toInt = 4 := (by decide); have z5 : (5 : Int32).toInt = 5 := (by decide); simp only [Int32.lt_iff_toInt_lt, Int32.le_iff_toInt_le, ← Int32.toInt_inj, z0, z1, z2, z3, z4, z5] at q6 q7 q8 q9 q10 q11 q12; omega
      ·
        exfalso; have z0 : (0 : Int32).toInt = 0 := (by decide); have z1 : (1 : Int32).toInt = 1 := (by decide); have z2 : (2 : Int32).toInt = 2 := (by decide); have z3 : (3 : Int32).toInt = 3 := (by decide); have z4 : (4 : Int32).toInt = 4 := (by decide); have z5 : (5 : Int32).toInt = 5 := (by decide); simp only [Int32.lt_iff_toInt_lt, Int32.le_iff_toInt_le, ← Int32.toInt_inj, z0, z1, z2, z3, z4, z5] at q6 q7 q8 q9 q10 q11 q12 q13; omega
      ·
        exfalso; have z0 : (0 : Int32).toInt = 0 := (by decide); have z1 : (1 : Int32).toInt = 1 := (by decide); have z2 : (2 : Int32).toInt = 2 := (by decide); have z3 : (3 : Int32).toInt = 3 := (by decide); have z4 : (4 : Int32).toInt = 4 := (by decide); have z5 : (5 : Int32).toInt = 5 := (by decide); simp only [Int32.lt_iff_toInt_lt, Int32.le_iff_toInt_le, ← Int32.toInt_inj, z0, z1, z2, z3, z4, z5] at q6 q7 q8 q9 q10 q11 q12 q13 q14; omega
      ·
        exfalso; have z0 : (0 : Int32).toInt = 0 := (by decide); have z1 : (1 : Int32).toInt = 1 := (by decide); have z2 : (2 : Int32).toInt = 2 := (by decide); have z3 : (3 : Int32).toInt = 3 := (by decide); have z4 : (4 : Int32).toInt = 4 := (by decide); have z5 : (5 : Int32).toInt = 5 := (by decide); simp only [Int32.lt_iff_toInt_lt, Int32.le_iff_toInt_le, ← Int32.toInt_inj, z0, z1, z2, z3, z4, z5] at q6 q7 q8 q9 q10 q11 q12 q13 q14 q15; omega
      ·
        exfalso; have z0 : (0 : Int32).toInt = 0 := (by decide); have z1 : (1 : Int32).toInt = 1 := (by decide); have z2 : (2 : Int32).toInt = 2 := (by decide); have z3 : (3 : Int32).toInt = 3 := (by decide); have z4 : (4 : Int32).toInt = 4 := (by decide); have z5 : (5 : Int32).toInt = 5 := (by decide); simp only [Int32.lt_iff_toInt_lt, Int32.le_iff_toInt_le, ← Int32.toInt_inj, z0, z1, z2, z3, z4, z5] at q6 q7 q8 q9 q10 q11 q12 q13 q14 q15 q16; omega
      ·
        exfalso; have z0 : (0 : Int32).toInt = 0 := (by decide); have z1 : (1 : Int32).toInt = 1 := (by decide); have z2 : (2 : Int32).toInt = 2 := (by decide); have z3 : (3 : Int32).toInt = 3 := (by decide); have z4 : (4 : Int32).toInt = 4 := (by decide); have z5 : (5 : Int32).toInt = 5 := (by decide); simp only [Int32.lt_iff_toInt_lt, Int32.le_iff_toInt_le, ← Int32.toInt_inj, z0, z1, z2, z3, z4, z5] at q6 q7 q8 q9 q10 q11 q12 q13 q14 q15 q16 q17; omega
      ·
        refine go_icmp_eq (pc := 250) (tgt := 660) (by decide) dL_law_250 (fun _ => ?_) (fun q => absurd q (by decide))
        refine go_iincv (pc := 660) (y := 6) (Nat.le_of_ble_eq_true rfl) rfl (by decide) dL_law_660 (go_lv (lv2 := [(0, .retAddr 0), (1, .ref 0), (2, .ref 70), (3, .int 6)]) rfl ?_)
        refine go_goto (pc := 663) (tgt := 18) (by decide) dL_law_663 ?_
        refine go_iload_n (pc := 18) rfl dL_law_18 ?_
        refine go_aload_nS (pc := 19) rfl dL_law_19 ?_
        refine go_slen (pc := 20) (L := 6) (fun b s q => q) rfl dL_law_20 (go_topi (y := 6) (by decide +kernel) ?_)
        refine go_bipush (pc := 21) (v := 6) (by decide) dL_law_21 ?_
        refine go_isub (pc := 23) dL_law_23 (go_topi (y := 0) (by decide) ?_)
        refine go_icmp_gt (pc := 24) (tgt := 666) (by decide) dL_law_24 (fun _ => ?_) (fun q => absurd q (by decide))
        refine go_iconst (pc := 666) (v := 1) (by decide) dL_law_666 ?_
        exact go_iret (pc := 667) rfl rfl (g_lnI hpN) (Nat.le_of_ble_eq_true rfl) dL_law_667
  by_cases q6 : ((xs 0) &&& 31) = 5
  ·
    refine go_tableIn (pc := 33) (tgt := 255) (off := 222) (by rw [q6]; decide) (by rw [q6]; decide) (by rw [q6]; decide) (by decide) dL_law_33 ?_
    refine go_aload_n (pc := 255) rfl dL_law_255 ?_
    refine go_aload_nS (pc := 256) rfl dL_law_256 ?_
    refine go_iload_n (pc := 257) rfl dL_law_257 ?_
    refine go_iconst (pc := 258) (v := 1) (by decide) dL_law_258 ?_
    refine go_iadd (pc := 259) dL_law_259 (go_topi (y := 1) (by decide) ?_)
    refine go_sldj (pc := 260) (i := 1) (j := 1) (L := 6) (fun b s q => q) rfl (by decide +kernel) (by decide +kernel) dL_law_260 ?_
    refine go_aload_nS (pc := 261) rfl dL_law_261 ?_
    refine go_iload_n (pc := 262) rfl dL_law_262 ?_
    refine go_iconst (pc := 263) (v := 2) (by decide) dL_law_263 ?_
    refine go_iadd (pc := 264) dL_law_264 (go_topi (y := 2) (by decide) ?_)
    refine go_sldj (pc := 265) (i := 2) (j := 2) (L := 6) (fun b s q => q) rfl (by decide +kernel) (by decide +kernel) dL_law_265 ?_
    refine go_invV (pc := 266) (sl := 32419) (k48_X7_of l xs) mL_L_37 iM_X7_of sM_X7_of (g_sh hpS rfl) rfl rfl rfl (Nat.le_of_ble_eq_true rfl) (Nat.le_of_ble_eq_true rfl) (Nat.le_of_ble_eq_true rfl) (g_cl hpN (Nat.le_of_ble_eq_true rfl)) (Nat.le_of_ble_eq_true rfl) dL_law_266 ?_
    intro r h' hq _
    rcases hq with ⟨q7, rfl, rfl⟩ | ⟨q7, q8, rfl, rfl⟩
    ·
      refine go_aload_n (pc := 269) rfl dL_law_269 ?_
      refine go_aload_nS (pc := 270) rfl dL_law_270 ?_
      refine go_iload_n (pc := 271) rfl dL_law_271 ?_
      refine go_iconst (pc := 272) (v := 1) (by decide) dL_law_272 ?_
      refine go_iadd (pc := 273) dL_law_273 (go_topi (y := 1) (by decide) ?_)
      refine go_sldj (pc := 274) (i := 1) (j := 1) (L := 6) (fun b s q => q) rfl (by decide +kernel) (by decide +kernel) dL_law_274 ?_
      refine go_aload_nS (pc := 275) rfl dL_law_275 ?_
      refine go_iload_n (pc := 276) rfl dL_law_276 ?_
      refine go_iconst (pc := 277) (v := 2) (by decide) dL_law_277 ?_
      refine go_iadd (pc := 278) dL_law_278 (go_topi (y := 2) (by decide) ?_)
      refine go_sldj (pc := 279) (i := 2) (j := 2) (L := 6) (fun b s q => q) rfl (by decide +kernel) (by decide +kernel) dL_law_279 ?_
      refine go_invV (pc := 280) (sl := 32419) (k50_X8_of l xs) mL_L_41 iM_X8_of sM_X8_of (g_sh hpS rfl) rfl rfl rfl (Nat.le_of_ble_eq_true rfl) (Nat.le_of_ble_eq_true rfl) (Nat.le_of_ble_eq_true rfl) (g_cl hpN (Nat.le_of_ble_eq_true rfl)) (Nat.le_of_ble_eq_true rfl) dL_law_280 ?_
      intro r h' hq _
      obtain ⟨rfl, rfl⟩ := hq
      refine go_icmp_eq (pc := 283) (tgt := 660) (by decide) dL_law_283 (fun _ => ?_) (fun q => absurd q (by decide))
      refine go_iincv (pc := 660) (y := 6) (Nat.le_of_ble_eq_true rfl) rfl (by decide) dL_law_660 (go_lv (lv2 := [(0, .retAddr 0), (1, .ref 0), (2, .ref 70), (3, .int 6)]) rfl ?_)
      refine go_goto (pc := 663) (tgt := 18) (by decide) dL_law_663 ?_
      refine go_iload_n (pc := 18) rfl dL_law_18 ?_
      refine go_aload_nS (pc := 19) rfl dL_law_19 ?_
      refine go_slen (pc := 20) (L := 6) (fun b s q => q) rfl dL_law_20 (go_topi (y := 6) (by decide +kernel) ?_)
      refine go_bipush (pc := 21) (v := 6) (by decide) dL_law_21 ?_
      refine go_isub (pc := 23) dL_law_23 (go_topi (y := 0) (by decide) ?_)
      refine go_icmp_gt (pc := 24) (tgt := 666) (by decide) dL_law_24 (fun _ => ?_) (fun q => absurd q (by decide))
      refine go_iconst (pc := 666) (v := 1) (by decide) dL_law_666 ?_
      exact go_iret (pc := 667) rfl rfl (g_lnI hpN) (Nat.le_of_ble_eq_true rfl) dL_law_667
    ·
      refine go_aload_n (pc := 269) rfl dL_law_269 ?_
      refine go_aload_nS (pc := 270) rfl dL_law_270 ?_
      refine go_iload_n (pc := 271) rfl dL_law_271 ?_
      refine go_iconst (pc := 272) (v := 1) (by decide) dL_law_272 ?_
      refine go_iadd (pc := 273) dL_law_273 (go_topi (y := 1) (by decide) ?_)
      refine go_sldj (pc := 274) (i := 1) (j := 1) (L := 6) (fun b s q => q) rfl (by decide +kernel) (by decide +kernel) dL_law_274 ?_
      refine go_aload_nS (pc := 275) rfl dL_law_275 ?_
      refine go_iload_n (pc := 276) rfl dL_law_276 ?_
      refine go_iconst (pc := 277) (v := 2) (by decide) dL_law_277 ?_
      refine go_iadd (pc := 278) dL_law_278 (go_topi (y := 2) (by decide) ?_)
      refine go_sldj (pc := 279) (i := 2) (j := 2) (L := 6) (fun b s q => q) rfl (by decide +kernel) (by decide +kernel) dL_law_279 ?_
      refine go_invV (pc := 280) (sl := 32419) (k50_X8_of l xs) mL_L_41 iM_X8_of sM_X8_of (g_sh hpS rfl) rfl rfl rfl (Nat.le_of_ble_eq_true rfl) (Nat.le_of_ble_eq_true rfl) (Nat.le_of_ble_eq_true rfl) (g_cl hpN (Nat.le_of_ble_eq_true rfl)) (Nat.le_of_ble_eq_true rfl) dL_law_280 ?_
      intro r h' hq _
      obtain ⟨rfl, rfl⟩ := hq
      refine go_icmp_eq (pc := 283) (tgt := 660) (by decide) dL_law_283 (fun _ => ?_) (fun q => absurd q (by decide))
      refine go_iincv (pc := 660) (y := 6) (Nat.le_of_ble_eq_true rfl) rfl (by decide) dL_law_660 (go_lv (lv2 := [(0, .retAddr 0), (1, .ref 0), (2, .ref 70), (3, .int 6)]) rfl ?_)
      refine go_goto (pc := 663) (tgt := 18) (by decide) dL_law_663 ?_
      refine go_iload_n (pc := 18) rfl dL_law_18 ?_
      refine go_aload_nS (pc := 19) rfl dL_law_19 ?_
      refine go_slen (pc := 20) (L := 6) (fun b s q => q) rfl dL_law_20 (go_topi (y := 6) (by decide +kernel) ?_)
      refine go_bipush (pc := 21) (v := 6) (by decide) dL_law_21 ?_
      refine go_isub (pc := 23) dL_law_23 (go_topi (y := 0) (by decide) ?_)
      refine go_icmp_gt (pc := 24) (tgt := 666) (by decide) dL_law_24 (fun _ => ?_) (fun q => absurd q (by decide))
      refine go_iconst (pc := 666) (v := 1) (by decide) dL_law_666 ?_
      exact go_iret (pc := 667) rfl rfl (g_lnI hpN) (Nat.le_of_ble_eq_true rfl) dL_law_667
  by_cases q7 : ((xs 0) &&& 31) = 6
  ·
    refine go_tableIn (pc := 33) (tgt := 288) (off := 255) (by rw [q7]; decide) (by rw [q7]; decide) (by rw [q7]; decide) (by decide) dL_law_33 ?_
    refine go_aload_n (pc := 288) rfl dL_law_288 ?_
    refine go_aload_nS (pc := 289) rfl dL_law_289 ?_
    refine go_iload_n (pc := 290) rfl dL_law_290 ?_
    refine go_iconst (pc := 291) (v := 1) (by decide) dL_law_291 ?_
    refine go_iadd (pc := 292) dL_law_292 (go_topi (y := 1) (by decide) ?_)
    refine go_sldj (pc := 293) (i := 1) (j := 1) (L := 6) (fun b s q => q) rfl (by decide +kernel) (by decide +kernel) dL_law_293 ?_
    refine go_aload_nS (pc := 294) rfl dL_law_294 ?_
    refine go_iload_n (pc := 295) rfl dL_law_295 ?_
    refine go_iconst (pc := 296) (v := 2) (by decide) dL_law_296 ?_
    refine go_iadd (pc := 297) dL_law_297 (go_topi (y := 2) (by decide) ?_)
    refine go_sldj (pc := 298) (i := 2) (j := 2) (L := 6) (fun b s q => q) rfl (by decide +kernel) (by decide +kernel) dL_law_298 ?_
    refine go_invV (pc := 299) (sl := 32419) (k51_X7_hangs l xs) mL_L_42 iM_X7_hangs sM_X7_hangs (g_sh hpS rfl) rfl rfl rfl (Nat.le_of_ble_eq_true rfl) (Nat.le_of_ble_eq_true rfl) (Nat.le_of_ble_eq_true rfl) (g_cl hpN (Nat.le_of_ble_eq_true rfl)) (Nat.le_of_ble_eq_true rfl) dL_law_299 ?_
    intro r h' hq _
    rcases hq with ⟨q8, rfl, rfl⟩ | ⟨q8, q9, rfl, rfl⟩
    ·
      refine go_aload_n (pc := 302) rfl dL_law_302 ?_
      refine go_aload_nS (pc := 303) rfl dL_law_303 ?_
      refine go_iload_n (pc := 304) rfl dL_law_304 ?_
      refine go_iconst (pc := 305) (v := 1) (by decide) dL_law_305 ?_
      refine go_iadd (pc := 306) dL_law_306 (go_topi (y := 1) (by decide) ?_)
      refine go_sldj (pc := 307) (i := 1) (j := 1) (L := 6) (fun b s q => q) rfl (by decide +kernel) (by decide +kernel) dL_law_307 ?_
      refine go_aload_nS (pc := 308) rfl dL_law_308 ?_
      refine go_iload_n (pc := 309) rfl dL_law_309 ?_
      refine go_iconst (pc := 310) (v := 2) (by decide) dL_law_310 ?_
      refine go_iadd (pc := 311) dL_law_311 (go_topi (y := 2) (by decide) ?_)
      refine go_sldj (pc := 312) (i := 2) (j := 2) (L := 6) (fun b s q => q) rfl (by decide +kernel) (by decide +kernel) dL_law_312 ?_
      refine go_invV (pc := 313) (sl := 32419) (k53_X8_hangs l xs) mL_L_45 iM_X8_hangs sM_X8_hangs (g_sh hpS rfl) rfl rfl rfl (Nat.le_of_ble_eq_true rfl) (Nat.le_of_ble_eq_true rfl) (Nat.le_of_ble_eq_true rfl) (g_cl hpN (Nat.le_of_ble_eq_true rfl)) (Nat.le_of_ble_eq_true rfl) dL_law_313 ?_
      intro r h' hq _
      obtain ⟨rfl, rfl⟩ := hq
      refine go_icmp_eq (pc := 316) (tgt := 660) (by decide) dL_law_316 (fun _ => ?_) (fun q => absurd q (by decide))
      refine go_iincv (pc := 660) (y := 6) (Nat.le_of_ble_eq_true rfl) rfl (by decide) dL_law_660 (go_lv (lv2 := [(0, .retAddr 0), (1, .ref 0), (2, .ref 70), (3, .int 6)]) rfl ?_)
      refine go_goto (pc := 663) (tgt := 18) (by decide) dL_law_663 ?_
      refine go_iload_n (pc := 18) rfl dL_law_18 ?_
      refine go_aload_nS (pc := 19) rfl dL_law_19 ?_
      refine go_slen (pc := 20) (L := 6) (fun b s q => q) rfl dL_law_20 (go_topi (y := 6) (by decide +kernel) ?_)
      refine go_bipush (pc := 21) (v := 6) (by decide) dL_law_21 ?_
      refine go_isub (pc := 23) dL_law_23 (go_topi (y := 0) (by decide) ?_)
      refine go_icmp_gt (pc := 24) (tgt := 666) (by decide) dL_law_24 (fun _ => ?_) (fun q => absurd q (by decide))
      refine go_iconst (pc := 666) (v := 1) (by decide) dL_law_666 ?_
      exact go_iret (pc := 667) rfl rfl hpN (Nat.le_of_ble_eq_true rfl) dL_law_667
    ·
      refine go_aload_n (pc := 302) rfl dL_law_302 ?_
      refine go_aload_nS (pc := 303) rfl dL_law_303 ?_
      refine go_iload_n (pc := 304) rfl dL_law_304 ?_
      refine go_iconst (pc := 305) (v := 1) (by decide) dL_law_305 ?_
      refine go_iadd (pc := 306) dL_law_306 (go_topi (y := 1) (by decide) ?_)
      refine go_sldj (pc := 307) (i := 1) (j := 1) (L := 6) (fun b s q => q) rfl (by decide +kernel) (by decide +kernel) dL_law_307 ?_
      refine go_aload_nS (pc := 308) rfl dL_law_308 ?_
      refine go_iload_n (pc := 309) rfl dL_law_309 ?_
      refine go_iconst (pc := 310) (v := 2) (by decide) dL_law_310 ?_
      refine go_iadd (pc := 311) dL_law_311 (go_topi (y := 2) (by decide) ?_)
      refine go_sldj (pc := 312) (i := 2) (j := 2) (L := 6) (fun b s q => q) rfl (by decide +kernel) (by decide +kernel) dL_law_312 ?_
      refine go_invV (pc := 313) (sl := 32419) (k53_X8_hangs l xs) mL_L_45 iM_X8_hangs sM_X8_hangs (g_sh hpS rfl) rfl rfl rfl (Nat.le_of_ble_eq_true rfl) (Nat.le_of_ble_eq_true rfl) (Nat.le_of_ble_eq_true rfl) (g_cl hpN (Nat.le_of_ble_eq_true rfl)) (Nat.le_of_ble_eq_true rfl) dL_law_313 ?_
      intro r h' hq _
      obtain ⟨rfl, rfl⟩ := hq
      refine go_icmp_eq (pc := 316) (tgt := 660) (by decide) dL_law_316 (fun _ => ?_) (fun q => absurd q (by decide))
      refine go_iincv (pc := 660) (y := 6) (Nat.le_of_ble_eq_true rfl) rfl (by decide) dL_law_660 (go_lv (lv2 := [(0, .retAddr 0), (1, .ref 0), (2, .ref 70), (3, .int 6)]) rfl ?_)
      refine go_goto (pc := 663) (tgt := 18) (by decide) dL_law_663 ?_
      refine go_iload_n (pc := 18) rfl dL_law_18 ?_
      refine go_aload_nS (pc := 19) rfl dL_law_19 ?_
      refine go_slen (pc := 20) (L := 6) (fun b s q => q) rfl dL_law_20 (go_topi (y := 6) (by decide +kernel) ?_)
      refine go_bipush (pc := 21) (v := 6) (by decide) dL_law_21 ?_
      refine go_isub (pc := 23) dL_law_23 (go_topi (y := 0) (by decide) ?_)
      refine go_icmp_gt (pc := 24) (tgt := 666) (by decide) dL_law_24 (fun _ => ?_) (fun q => absurd q (by decide))
      refine go_iconst (pc := 666) (v := 1) (by decide) dL_law_666 ?_
      exact go_iret (pc := 667) rfl rfl hpN (Nat.le_of_ble_eq_true rfl) dL_law_667
  by_cases q8 : ((xs 0) &&& 31) = 7
  ·
    refine go_tableIn (pc := 33) (tgt := 321) (off := 288) (by rw [q8]; decide) (by rw [q8]; decide) (by rw [q8]; decide) (by decide) dL_law_33 ?_
    refine go_aload_n (pc := 321) rfl dL_law_321 ?_
    refine go_aload_nS (pc := 322) rfl dL_law_322 ?_
    refine go_iload_n (pc := 323) rfl dL_law_323 ?_
    refine go_iconst (pc := 324) (v := 1) (by decide) dL_law_324 ?_
    refine go_iadd (pc := 325) dL_law_325 (go_topi (y := 1) (by decide) ?_)
    refine go_sldj (pc := 326) (i := 1) (j := 1) (L := 6) (fun b s q => q) rfl (by decide +kernel) (by decide +kernel) dL_law_326 ?_
    refine go_invV (pc := 327) (sl := 32419) (k55_X7_begun l xs) mL_L_46 iM_X7_begun sM_X7_begun (g_sh hpS rfl) rfl rfl rfl (Nat.le_of_ble_eq_true rfl) (Nat.le_of_ble_eq_true rfl) (Nat.le_of_ble_eq_true rfl) (g_cl hpN (Nat.le_of_ble_eq_true rfl)) (Nat.le_of_ble_eq_true rfl) dL_law_327 ?_
    intro r h' hq _
    rcases hq with ⟨q9, rfl, rfl⟩ | ⟨q9, q10, rfl, rfl⟩
    ·
      refine go_aload_n (pc := 330) rfl dL_law_330 ?_
      refine go_aload_nS (pc := 331) rfl dL_law_331 ?_
      refine go_iload_n (pc := 332) rfl dL_law_332 ?_
      refine go_iconst (pc := 333) (v := 1) (by decide) dL_law_333 ?_
      refine go_iadd (pc := 334) dL_law_334 (go_topi (y := 1) (by decide) ?_)
      refine go_sldj (pc := 335) (i := 1) (j := 1) (L := 6) (fun b s q => q) rfl (by decide +kernel) (by decide +kernel) dL_law_335 ?_
      refine go_invV (pc := 336) (sl := 32419) (k57_X8_begun l xs) mL_L_50 iM_X8_begun sM_X8_begun (g_sh hpS rfl) rfl rfl rfl (Nat.le_of_ble_eq_true rfl) (Nat.le_of_ble_eq_true rfl) (Nat.le_of_ble_eq_true rfl) (g_cl hpN (Nat.le_of_ble_eq_true rfl)) (Nat.le_of_ble_eq_true rfl) dL_law_336 ?_
      intro r h' hq _
      obtain ⟨rfl, rfl⟩ := hq
      refine go_lcmp (pc := 339) dL_law_339 (go_topi (y := 0) (by decide) ?_)
      refine go_if_eq (pc := 340) (tgt := 660) (by decide) dL_law_340 (fun _ => ?_) (fun q => absurd q (by decide))
      refine go_iincv (pc := 660) (y := 6) (Nat.le_of_ble_eq_true rfl) rfl (by decide) dL_law_660 (go_lv (lv2 := [(0, .retAddr 0), (1, .ref 0), (2, .ref 70), (3, .int 6)]) rfl ?_)
      refine go_goto (pc := 663) (tgt := 18) (by decide) dL_law_663 ?_
      refine go_iload_n (pc := 18) rfl dL_law_18 ?_
      refine go_aload_nS (pc := 19) rfl dL_law_19 ?_
      refine go_slen (pc := 20) (L := 6) (fun b s q => q) rfl dL_law_20 (go_topi (y := 6) (by decide +kernel) ?_)
      refine go_bipush (pc := 21) (v := 6) (by decide) dL_law_21 ?_
      refine go_isub (pc := 23) dL_law_23 (go_topi (y := 0) (by decide) ?_)
      refine go_icmp_gt (pc := 24) (tgt := 666) (by decide) dL_law_24 (fun _ => ?_) (fun q => absurd q (by decide))
      refine go_iconst (pc := 666) (v := 1) (by decide) dL_law_666 ?_
      exact go_iret (pc := 667) rfl rfl hpN (Nat.le_of_ble_eq_true rfl) dL_law_667
    ·
      refine go_aload_n (pc := 330) rfl dL_law_330 ?_
      refine go_aload_nS (pc := 331) rfl dL_law_331 ?_
      refine go_iload_n (pc := 332) rfl dL_law_332 ?_
      refine go_iconst (pc := 333) (v := 1) (by decide) dL_law_333 ?_
      refine go_iadd (pc := 334) dL_law_334 (go_topi (y := 1) (by decide) ?_)
      refine go_sldj (pc := 335) (i := 1) (j := 1) (L := 6) (fun b s q => q) rfl (by decide +kernel) (by decide +kernel) dL_law_335 ?_
      refine go_invV (pc := 336) (sl := 32419) (k57_X8_begun l xs) mL_L_50 iM_X8_begun sM_X8_begun (g_sh hpS rfl) rfl rfl rfl (Nat.le_of_ble_eq_true rfl) (Nat.le_of_ble_eq_true rfl) (Nat.le_of_ble_eq_true rfl) (g_cl hpN (Nat.le_of_ble_eq_true rfl)) (Nat.le_of_ble_eq_true rfl) dL_law_336 ?_
      intro r h' hq _
      obtain ⟨rfl, rfl⟩ := hq
      refine go_lcmp (pc := 339) dL_law_339 (go_topi (y := 0) (by decide) ?_)
      refine go_if_eq (pc := 340) (tgt := 660) (by decide) dL_law_340 (fun _ => ?_) (fun q => absurd q (by decide))
      refine go_iincv (pc := 660) (y := 6) (Nat.le_of_ble_eq_true rfl) rfl (by decide) dL_law_660 (go_lv (lv2 := [(0, .retAddr 0), (1, .ref 0), (2, .ref 70), (3, .int 6)]) rfl ?_)
      refine go_goto (pc := 663) (tgt := 18) (by decide) dL_law_663 ?_
      refine go_iload_n (pc := 18) rfl dL_law_18 ?_
      refine go_aload_nS (pc := 19) rfl dL_law_19 ?_
      refine go_slen (pc := 20) (L := 6) (fun b s q => q) rfl dL_law_20 (go_topi (y := 6) (by decide +kernel) ?_)
      refine go_bipush (pc := 21) (v := 6) (by decide) dL_law_21 ?_
      refine go_isub (pc := 23) dL_law_23 (go_topi (y := 0) (by decide) ?_)
      refine go_icmp_gt (pc := 24) (tgt := 666) (by decide) dL_law_24 (fun _ => ?_) (fun q => absurd q (by decide))
      refine go_iconst (pc := 666) (v := 1) (by decide) dL_law_666 ?_
      exact go_iret (pc := 667) rfl rfl hpN (Nat.le_of_ble_eq_true rfl) dL_law_667
  by_cases q9 : ((xs 0) &&& 31) = 8
  ·
    refine go_tableIn (pc := 33) (tgt := 345) (off := 312) (by rw [q9]; decide) (by rw [q9]; decide) (by rw [q9]; decide) (by decide) dL_law_33 ?_
    refine go_aload_n (pc := 345) rfl dL_law_345 ?_
    refine go_aload_nS (pc := 346) rfl dL_law_346 ?_
    refine go_iload_n (pc := 347) rfl dL_law_347 ?_
    refine go_iconst (pc := 348) (v := 1) (by decide) dL_law_348 ?_
    refine go_iadd (pc := 349) dL_law_349 (go_topi (y := 1) (by decide) ?_)
    refine go_sldj (pc := 350) (i := 1) (j := 1) (L := 6) (fun b s q => q) rfl (by decide +kernel) (by decide +kernel) dL_law_350 ?_
    refine go_aload_nS (pc := 351) rfl dL_law_351 ?_
    refine go_iload_n (pc := 352) rfl dL_law_352 ?_
    refine go_iconst (pc := 353) (v := 2) (by decide) dL_law_353 ?_
    refine go_iadd (pc := 354) dL_law_354 (go_topi (y := 2) (by decide) ?_)
    refine go_sldj (pc := 355) (i := 2) (j := 2) (L := 6) (fun b s q => q) rfl (by decide +kernel) (by decide +kernel) dL_law_355 ?_
    refine go_aload_nS (pc := 356) rfl dL_law_356 ?_
    refine go_iload_n (pc := 357) rfl dL_law_357 ?_
    refine go_iconst (pc := 358) (v := 3) (by decide) dL_law_358 ?_
    refine go_iadd (pc := 359) dL_law_359 (go_topi (y := 3) (by decide) ?_)
    refine go_sldj (pc := 360) (i := 3) (j := 3) (L := 6) (fun b s q => q) rfl (by decide +kernel) (by decide +kernel) dL_law_360 ?_
    refine go_invV (pc := 361) (sl := 32419) (k58_X7_summary l xs) mL_L_51 iM_X7_summary sM_X7_summary (g_sh hpS rfl) rfl rfl rfl (Nat.le_of_ble_eq_true rfl) (Nat.le_of_ble_eq_true rfl) (Nat.le_of_ble_eq_true rfl) (g_cl hpN (Nat.le_of_ble_eq_true rfl)) (Nat.le_of_ble_eq_true rfl) dL_law_361 ?_
    intro r h' hq _
    rcases hq with ⟨q10, rfl, rfl⟩ | ⟨q10, q11, rfl, rfl⟩
    ·
      refine go_aload_n (pc := 364) rfl dL_law_364 ?_
      refine go_aload_nS (pc := 365) rfl dL_law_365 ?_
      refine go_iload_n (pc := 366) rfl dL_law_366 ?_
      refine go_iconst (pc := 367) (v := 1) (by decide) dL_law_367 ?_
      refine go_iadd (pc := 368) dL_law_368 (go_topi (y := 1) (by decide) ?_)
      refine go_sldj (pc := 369) (i := 1) (j := 1) (L := 6) (fun b s q => q) rfl (by decide +kernel) (by decide +kernel) dL_law_369 ?_
      refine go_aload_nS (pc := 370) rfl dL_law_370 ?_
      refine go_iload_n (pc := 371) rfl dL_law_371 ?_
      refine go_iconst (pc := 372) (v := 2) (by decide) dL_law_372 ?_
      refine go_iadd (pc := 373) dL_law_373 (go_topi (y := 2) (by decide) ?_)
      refine go_sldj (pc := 374) (i := 2) (j := 2) (L := 6) (fun b s q => q) rfl (by decide +kernel) (by decide +kernel) dL_law_374 ?_
      refine go_aload_nS (pc := 375) rfl dL_law_375 ?_
      refine go_iload_n (pc := 376) rfl dL_law_376 ?_
      refine go_iconst (pc := 377) (v := 3) (by decide) dL_law_377 ?_
      refine go_iadd (pc := 378) dL_law_378 (go_topi (y := 3) (by decide) ?_)
      refine go_sldj (pc := 379) (i := 3) (j := 3) (L := 6) (fun b s q => q) rfl (by decide +kernel) (by decide +kernel) dL_law_379 ?_
      refine go_invV (pc := 380) (sl := 32419) (k59_X8_summary l xs) mL_L_55 iM_X8_summary sM_X8_summary (g_sh hpS rfl) rfl rfl rfl (Nat.le_of_ble_eq_true rfl) (Nat.le_of_ble_eq_true rfl) (Nat.le_of_ble_eq_true rfl) (g_cl hpN (Nat.le_of_ble_eq_true rfl)) (Nat.le_of_ble_eq_true rfl) dL_law_380 ?_
      intro r h' hq _
      obtain ⟨rfl, rfl⟩ := hq
      refine go_icmp_eq (pc := 383) (tgt := 660) (by decide) dL_law_383 (fun _ => ?_) (fun q => absurd q (by decide))
      refine go_iincv (pc := 660) (y := 6) (Nat.le_of_ble_eq_true rfl) rfl (by decide) dL_law_660 (go_lv (lv2 := [(0, .retAddr 0), (1, .ref 0), (2, .ref 70), (3, .int 6)]) rfl ?_)
      refine go_goto (pc := 663) (tgt := 18) (by decide) dL_law_663 ?_
      refine go_iload_n (pc := 18) rfl dL_law_18 ?_
      refine go_aload_nS (pc := 19) rfl dL_law_19 ?_
      refine go_slen (pc := 20) (L := 6) (fun b s q => q) rfl dL_law_20 (go_topi (y := 6) (by decide +kernel) ?_)
      refine go_bipush (pc := 21) (v := 6) (by decide) dL_law_21 ?_
      refine go_isub (pc := 23) dL_law_23 (go_topi (y := 0) (by decide) ?_)
      refine go_icmp_gt (pc := 24) (tgt := 666) (by decide) dL_law_24 (fun _ => ?_) (fun q => absurd q (by decide))
      refine go_iconst (pc := 666) (v := 1) (by decide) dL_law_666 ?_
      exact go_iret (pc := 667) rfl rfl (g_lnI hpN) (Nat.le_of_ble_eq_true rfl) dL_law_667
    ·
      refine go_aload_n (pc := 364) rfl dL_law_364 ?_
      refine go_aload_nS (pc := 365) rfl dL_law_365 ?_
      refine go_iload_n (pc := 366) rfl dL_law_366 ?_
      refine go_iconst (pc := 367) (v := 1) (by decide) dL_law_367 ?_
      refine go_iadd (pc := 368) dL_law_368 (go_topi (y := 1) (by decide) ?_)
      refine go_sldj (pc := 369) (i := 1) (j := 1) (L := 6) (fun b s q => q) rfl (by decide +kernel) (by decide +kernel) dL_law_369 ?_
      refine go_aload_nS (pc := 370) rfl dL_law_370 ?_
      refine go_iload_n (pc := 371) rfl dL_law_371 ?_
      refine go_iconst (pc := 372) (v := 2) (by decide) dL_law_372 ?_
      refine go_iadd (pc := 373) dL_law_373 (go_topi (y := 2) (by decide) ?_)
      refine go_sldj (pc := 374) (i := 2) (j := 2) (L := 6) (fun b s q => q) rfl (by decide +kernel) (by decide +kernel) dL_law_374 ?_
      refine go_aload_nS (pc := 375) rfl dL_law_375 ?_
      refine go_iload_n (pc := 376) rfl dL_law_376 ?_
      refine go_iconst (pc := 377) (v := 3) (by decide) dL_law_377 ?_
      refine go_iadd (pc := 378) dL_law_378 (go_topi (y := 3) (by decide) ?_)
      refine go_sldj (pc := 379) (i := 3) (j := 3) (L := 6) (fun b s q => q) rfl (by decide +kernel) (by decide +kernel) dL_law_379 ?_
      refine go_invV (pc := 380) (sl := 32419) (k59_X8_summary l xs) mL_L_55 iM_X8_summary sM_X8_summary (g_sh hpS rfl) rfl rfl rfl (Nat.le_of_ble_eq_true rfl) (Nat.le_of_ble_eq_true rfl) (Nat.le_of_ble_eq_true rfl) (g_cl hpN (Nat.le_of_ble_eq_true rfl)) (Nat.le_of_ble_eq_true rfl) dL_law_380 ?_
      intro r h' hq _
      obtain ⟨rfl, rfl⟩ := hq
      refine go_icmp_eq (pc := 383) (tgt := 660) (by decide) dL_law_383 (fun _ => ?_) (fun q => absurd q (by decide))
      refine go_iincv (pc := 660) (y := 6) (Nat.le_of_ble_eq_true rfl) rfl (by decide) dL_law_660 (go_lv (lv2 := [(0, .retAddr 0), (1, .ref 0), (2, .ref 70), (3, .int 6)]) rfl ?_)
      refine go_goto (pc := 663) (tgt := 18) (by decide) dL_law_663 ?_
      refine go_iload_n (pc := 18) rfl dL_law_18 ?_
      refine go_aload_nS (pc := 19) rfl dL_law_19 ?_
      refine go_slen (pc := 20) (L := 6) (fun b s q => q) rfl dL_law_20 (go_topi (y := 6) (by decide +kernel) ?_)
      refine go_bipush (pc := 21) (v := 6) (by decide) dL_law_21 ?_
      refine go_isub (pc := 23) dL_law_23 (go_topi (y := 0) (by decide) ?_)
      refine go_icmp_gt (pc := 24) (tgt := 666) (by decide) dL_law_24 (fun _ => ?_) (fun q => absurd q (by decide))
      refine go_iconst (pc := 666) (v := 1) (by decide) dL_law_666 ?_
      exact go_iret (pc := 667) rfl rfl (g_lnI hpN) (Nat.le_of_ble_eq_true rfl) dL_law_667
  by_cases q10 : ((xs 0) &&& 31) = 9
  ·
    refine go_tableIn (pc := 33) (tgt := 388) (off := 355) (by rw [q10]; decide) (by rw [q10]; decide) (by rw [q10]; decide) (by decide) dL_law_33 ?_
    refine go_aload_n (pc := 388) rfl dL_law_388 ?_
    refine go_aload_nS (pc := 389) rfl dL_law_389 ?_
    refine go_iload_n (pc := 390) rfl dL_law_390 ?_
    refine go_iconst (pc := 391) (v := 1) (by decide) dL_law_391 ?_
    refine go_iadd (pc := 392) dL_law_392 (go_topi (y := 1) (by decide) ?_)
    refine go_sldj (pc := 393) (i := 1) (j := 1) (L := 6) (fun b s q => q) rfl (by decide +kernel) (by decide +kernel) dL_law_393 ?_
    refine go_invV (pc := 394) (sl := 32419) (k60_X7_back l xs) mL_L_56 iM_X7_back sM_X7_back (g_sh hpS rfl) rfl rfl rfl (Nat.le_of_ble_eq_true rfl) (Nat.le_of_ble_eq_true rfl) (Nat.le_of_ble_eq_true rfl) (g_cl hpN (Nat.le_of_ble_eq_true rfl)) (Nat.le_of_ble_eq_true rfl) dL_law_394 ?_
    intro r h' hq _
    rcases hq with ⟨q11, rfl, rfl⟩ | ⟨q11, q12, rfl, rfl⟩
    ·
      refine go_aload_n (pc := 397) rfl dL_law_397 ?_
      refine go_aload_nS (pc := 398) rfl dL_law_398 ?_
      refine go_iload_n (pc := 399) rfl dL_law_399 ?_
      refine go_iconst (pc := 400) (v := 1) (by decide) dL_law_400 ?_
      refine go_iadd (pc := 401) dL_law_401 (go_topi (y := 1) (by decide) ?_)
      refine go_sldj (pc := 402) (i := 1) (j := 1) (L := 6) (fun b s q => q) rfl (by decide +kernel) (by decide +kernel) dL_law_402 ?_
      refine go_invV (pc := 403) (sl := 32419) (k61_X8_back l xs) mL_L_59 iM_X8_back sM_X8_back (g_sh hpS rfl) rfl rfl rfl (Nat.le_of_ble_eq_true rfl) (Nat.le_of_ble_eq_true rfl) (Nat.le_of_ble_eq_true rfl) (g_cl hpN (Nat.le_of_ble_eq_true rfl)) (Nat.le_of_ble_eq_true rfl) dL_law_403 ?_
      intro r h' hq _
      obtain ⟨rfl, rfl⟩ := hq
      refine go_lcmp (pc := 406) dL_law_406 (go_topi (y := 0) (by decide) ?_)
      refine go_if_eq (pc := 407) (tgt := 660) (by decide) dL_law_407 (fun _ => ?_) (fun q => absurd q (by decide))
      refine go_iincv (pc := 660) (y := 6) (Nat.le_of_ble_eq_true rfl) rfl (by decide) dL_law_660 (go_lv (lv2 := [(0, .retAddr 0), (1, .ref 0), (2, .ref 70), (3, .int 6)]) rfl ?_)
      refine go_goto (pc := 663) (tgt := 18) (by decide) dL_law_663 ?_
      refine go_iload_n (pc := 18) rfl dL_law_18 ?_
      refine go_aload_nS (pc := 19) rfl dL_law_19 ?_
      refine go_slen (pc := 20) (L := 6) (fun b s q => q) rfl dL_law_20 (go_topi (y := 6) (by decide +kernel) ?_)
      refine go_bipush (pc := 21) (v := 6) (by decide) dL_law_21 ?_
      refine go_isub (pc := 23) dL_law_23 (go_topi (y := 0) (by decide) ?_)
      refine go_icmp_gt (pc := 24) (tgt := 666) (by decide) dL_law_24 (fun _ => ?_) (fun q => absurd q (by decide))
      refine go_iconst (pc := 666) (v := 1) (by decide) dL_law_666 ?_
      exact go_iret (pc := 667) rfl rfl hpN (Nat.le_of_ble_eq_true rfl) dL_law_667
    ·
      refine go_aload_n (pc := 397) rfl dL_law_397 ?_
      refine go_aload_nS (pc := 398) rfl dL_law_398 ?_
      refine go_iload_n (pc := 399) rfl dL_law_399 ?_
      refine go_iconst (pc := 400) (v := 1) (by decide) dL_law_400 ?_
      refine go_iadd (pc := 401) dL_law_401 (go_topi (y := 1) (by decide) ?_)
      refine go_sldj (pc := 402) (i := 1) (j := 1) (L := 6) (fun b s q => q) rfl (by decide +kernel) (by decide +kernel) dL_law_402 ?_
      refine go_invV (pc := 403) (sl := 32419) (k61_X8_back l xs) mL_L_59 iM_X8_back sM_X8_back (g_sh hpS rfl) rfl rfl rfl (Nat.le_of_ble_eq_true rfl) (Nat.le_of_ble_eq_true rfl) (Nat.le_of_ble_eq_true rfl) (g_cl hpN (Nat.le_of_ble_eq_true rfl)) (Nat.le_of_ble_eq_true rfl) dL_law_403 ?_
      intro r h' hq _
      obtain ⟨rfl, rfl⟩ := hq
      refine go_lcmp (pc := 406) dL_law_406 (go_topi (y := 0) (by decide) ?_)
      refine go_if_eq (pc := 407) (tgt := 660) (by decide) dL_law_407 (fun _ => ?_) (fun q => absurd q (by decide))
      refine go_iincv (pc := 660) (y := 6) (Nat.le_of_ble_eq_true rfl) rfl (by decide) dL_law_660 (go_lv (lv2 := [(0, .retAddr 0), (1, .ref 0), (2, .ref 70), (3, .int 6)]) rfl ?_)
      refine go_goto (pc := 663) (tgt := 18) (by decide) dL_law_663 ?_
      refine go_iload_n (pc := 18) rfl dL_law_18 ?_
      refine go_aload_nS (pc := 19) rfl dL_law_19 ?_
      refine go_slen (pc := 20) (L := 6) (fun b s q => q) rfl dL_law_20 (go_topi (y := 6) (by decide +kernel) ?_)
      refine go_bipush (pc := 21) (v := 6) (by decide) dL_law_21 ?_
      refine go_isub (pc := 23) dL_law_23 (go_topi (y := 0) (by decide) ?_)
      refine go_icmp_gt (pc := 24) (tgt := 666) (by decide) dL_law_24 (fun _ => ?_) (fun q => absurd q (by decide))
      refine go_iconst (pc := 666) (v := 1) (by decide) dL_law_666 ?_
      exact go_iret (pc := 667) rfl rfl hpN (Nat.le_of_ble_eq_true rfl) dL_law_667
  by_cases q11 : ((xs 0) &&& 31) = 10
  ·
    refine go_tableIn (pc := 33) (tgt := 412) (off := 379) (by rw [q11]; decide) (by rw [q11]; decide) (by rw [q11]; decide) (by decide) dL_law_33 ?_
    refine go_aload_n (pc := 412) rfl dL_law_412 ?_
    refine go_aload_nS (pc := 413) rfl dL_law_413 ?_
    refine go_iload_n (pc := 414) rfl dL_law_414 ?_
    refine go_iconst (pc := 415) (v := 1) (by decide) dL_law_415 ?_
    refine go_iadd (pc := 416) dL_law_416 (go_topi (y := 1) (by decide) ?_)
    refine go_sldj (pc := 417) (i := 1) (j := 1) (L := 6) (fun b s q => q) rfl (by decide +kernel) (by decide +kernel) dL_law_417 ?_
    refine go_invV (pc := 418) (sl := 32419) (k62_X7_forth l xs) mL_L_60 iM_X7_forth sM_X7_forth (g_sh hpS rfl) rfl rfl rfl (Nat.le_of_ble_eq_true rfl) (Nat.le_of_ble_eq_true rfl) (Nat.le_of_ble_eq_true rfl) (g_cl hpN (Nat.le_of_ble_eq_true rfl)) (Nat.le_of_ble_eq_true rfl) dL_law_418 ?_
    intro r h' hq _
    rcases hq with ⟨q12, rfl, rfl⟩ | ⟨q12, q13, rfl, rfl⟩
    ·
      refine go_aload_n (pc := 421) rfl dL_law_421 ?_
      refine go_aload_nS (pc := 422) rfl dL_law_422 ?_
      refine go_iload_n (pc := 423) rfl dL_law_423 ?_
      refine go_iconst (pc := 424) (v := 1) (by decide) dL_law_424 ?_
      refine go_iadd (pc := 425) dL_law_425 (go_topi (y := 1) (by decide) ?_)
      refine go_sldj (pc := 426) (i := 1) (j := 1) (L := 6) (fun b s q => q) rfl (by decide +kernel) (by decide +kernel) dL_law_426 ?_
      refine go_invV (pc := 427) (sl := 32419) (k63_X8_forth l xs) mL_L_63 iM_X8_forth sM_X8_forth (g_sh hpS rfl) rfl rfl rfl (Nat.le_of_ble_eq_true rfl) (Nat.le_of_ble_eq_true rfl) (Nat.le_of_ble_eq_true rfl) (g_cl hpN (Nat.le_of_ble_eq_true rfl)) (Nat.le_of_ble_eq_true rfl) dL_law_427 ?_
      intro r h' hq _
      obtain ⟨rfl, rfl⟩ := hq
      refine go_lcmp (pc := 430) dL_law_430 (go_topi (y := 0) (by decide) ?_)
      refine go_if_eq (pc := 431) (tgt := 660) (by decide) dL_law_431 (fun _ => ?_) (fun q => absurd q (by decide))
      refine go_iincv (pc := 660) (y := 6) (Nat.le_of_ble_eq_true rfl) rfl (by decide) dL_law_660 (go_lv (lv2 := [(0, .retAddr 0), (1, .ref 0), (2, .ref 70), (3, .int 6)]) rfl ?_)
      refine go_goto (pc := 663) (tgt := 18) (by decide) dL_law_663 ?_
      refine go_iload_n (pc := 18) rfl dL_law_18 ?_
      refine go_aload_nS (pc := 19) rfl dL_law_19 ?_
      refine go_slen (pc := 20) (L := 6) (fun b s q => q) rfl dL_law_20 (go_topi (y := 6) (by decide +kernel) ?_)
      refine go_bipush (pc := 21) (v := 6) (by decide) dL_law_21 ?_
      refine go_isub (pc := 23) dL_law_23 (go_topi (y := 0) (by decide) ?_)
      refine go_icmp_gt (pc := 24) (tgt := 666) (by decide) dL_law_24 (fun _ => ?_) (fun q => absurd q (by decide))
      refine go_iconst (pc := 666) (v := 1) (by decide) dL_law_666 ?_
      exact go_iret (pc := 667) rfl rfl hpN (Nat.le_of_ble_eq_true rfl) dL_law_667
    ·
      refine go_aload_n (pc := 421) rfl dL_law_421 ?_
      refine go_aload_nS (pc := 422) rfl dL_law_422 ?_
      refine go_iload_n (pc := 423) rfl dL_law_423 ?_
      refine go_iconst (pc := 424) (v := 1) (by decide) dL_law_424 ?_
      refine go_iadd (pc := 425) dL_law_425 (go_topi (y := 1) (by decide) ?_)
      refine go_sldj (pc := 426) (i := 1) (j := 1) (L := 6) (fun b s q => q) rfl (by decide +kernel) (by decide +kernel) dL_law_426 ?_
      refine go_invV (pc := 427) (sl := 32419) (k63_X8_forth l xs) mL_L_63 iM_X8_forth sM_X8_forth (g_sh hpS rfl) rfl rfl rfl (Nat.le_of_ble_eq_true rfl) (Nat.le_of_ble_eq_true rfl) (Nat.le_of_ble_eq_true rfl) (g_cl hpN (Nat.le_of_ble_eq_true rfl)) (Nat.le_of_ble_eq_true rfl) dL_law_427 ?_
      intro r h' hq _
      obtain ⟨rfl, rfl⟩ := hq
      refine go_lcmp (pc := 430) dL_law_430 (go_topi (y := 0) (by decide) ?_)
      refine go_if_eq (pc := 431) (tgt := 660) (by decide) dL_law_431 (fun _ => ?_) (fun q => absurd q (by decide))
      refine go_iincv (pc := 660) (y := 6) (Nat.le_of_ble_eq_true rfl) rfl (by decide) dL_law_660 (go_lv (lv2 := [(0, .retAddr 0), (1, .ref 0), (2, .ref 70), (3, .int 6)]) rfl ?_)
      refine go_goto (pc := 663) (tgt := 18) (by decide) dL_law_663 ?_
      refine go_iload_n (pc := 18) rfl dL_law_18 ?_
      refine go_aload_nS (pc := 19) rfl dL_law_19 ?_
      refine go_slen (pc := 20) (L := 6) (fun b s q => q) rfl dL_law_20 (go_topi (y := 6) (by decide +kernel) ?_)
      refine go_bipush (pc := 21) (v := 6) (by decide) dL_law_21 ?_
      refine go_isub (pc := 23) dL_law_23 (go_topi (y := 0) (by decide) ?_)
      refine go_icmp_gt (pc := 24) (tgt := 666) (by decide) dL_law_24 (fun _ => ?_) (fun q => absurd q (by decide))
      refine go_iconst (pc := 666) (v := 1) (by decide) dL_law_666 ?_
      exact go_iret (pc := 667) rfl rfl hpN (Nat.le_of_ble_eq_true rfl) dL_law_667
  by_cases q12 : ((xs 0) &&& 31) = 11
  ·
    refine go_tableIn (pc := 33) (tgt := 436) (off := 403) (by rw [q12]; decide) (by rw [q12]; decide) (by rw [q12]; decide) (by decide) dL_law_33 ?_
    refine go_aload_n (pc := 436) rfl dL_law_436 ?_
    refine go_aload_nS (pc := 437) rfl dL_law_437 ?_
    refine go_iload_n (pc := 438) rfl dL_law_438 ?_
    refine go_iconst (pc := 439) (v := 1) (by decide) dL_law_439 ?_
    refine go_iadd (pc := 440) dL_law_440 (go_topi (y := 1) (by decide) ?_)
    refine go_sldj (pc := 441) (i := 1) (j := 1) (L := 6) (fun b s q => q) rfl (by decide +kernel) (by decide +kernel) dL_law_441 ?_
    refine go_aload_nS (pc := 442) rfl dL_law_442 ?_
    refine go_iload_n (pc := 443) rfl dL_law_443 ?_
    refine go_iconst (pc := 444) (v := 2) (by decide) dL_law_444 ?_
    refine go_iadd (pc := 445) dL_law_445 (go_topi (y := 2) (by decide) ?_)
    refine go_sldj (pc := 446) (i := 2) (j := 2) (L := 6) (fun b s q => q) rfl (by decide +kernel) (by decide +kernel) dL_law_446 ?_
    refine go_invV (pc := 447) (sl := 32419) (k64_X7_between l xs) mL_L_64 iM_X7_between sM_X7_between (g_sh hpS rfl) rfl rfl rfl (Nat.le_of_ble_eq_true rfl) (Nat.le_of_ble_eq_true rfl) (Nat.le_of_ble_eq_true rfl) (g_cl hpN (Nat.le_of_ble_eq_true rfl)) (Nat.le_of_ble_eq_true rfl) dL_law_447 ?_
    intro r h' hq _
    rcases hq with ⟨q13, rfl, rfl⟩ | ⟨q13, q14, rfl, rfl⟩
    ·
      refine go_aload_n (pc := 450) rfl dL_law_450 ?_
      refine go_aload_nS (pc := 451) rfl dL_law_451 ?_
      refine go_iload_n (pc := 452) rfl dL_law_452 ?_
      refine go_iconst (pc := 453) (v := 1) (by decide) dL_law_453 ?_
      refine go_iadd (pc := 454) dL_law_454 (go_topi (y := 1) (by decide) ?_)
      refine go_sldj (pc := 455) (i := 1) (j := 1) (L := 6) (fun b s q => q) rfl (by decide +kernel) (by decide +kernel) dL_law_455 ?_
      refine go_aload_nS (pc := 456) rfl dL_law_456 ?_
      refine go_iload_n (pc := 457) rfl dL_law_457 ?_
      refine go_iconst (pc := 458) (v := 2) (by decide) dL_law_458 ?_
      refine go_iadd (pc := 459) dL_law_459 (go_topi (y := 2) (by decide) ?_)
      refine go_sldj (pc := 460) (i := 2) (j := 2) (L := 6) (fun b s q => q) rfl (by decide +kernel) (by decide +kernel) dL_law_460 ?_
      refine go_invV (pc := 461) (sl := 32419) (k65_X8_between l xs) mL_L_68 iM_X8_between sM_X8_between (g_sh hpS rfl) rfl rfl rfl (Nat.le_of_ble_eq_true rfl) (Nat.le_of_ble_eq_true rfl) (Nat.le_of_ble_eq_true rfl) (g_cl hpN (Nat.le_of_ble_eq_true rfl)) (Nat.le_of_ble_eq_true rfl) dL_law_461 ?_
      intro r h' hq _
      obtain ⟨rfl, rfl⟩ := hq
      refine go_lcmp (pc := 464) dL_law_464 (go_topi (y := 0) (by decide) ?_)
      refine go_if_eq (pc := 465) (tgt := 660) (by decide) dL_law_465 (fun _ => ?_) (fun q => absurd q (by decide))
      refine go_iincv (pc := 660) (y := 6) (Nat.le_of_ble_eq_true rfl) rfl (by decide) dL_law_660 (go_lv (lv2 := [(0, .retAddr 0), (1, .ref 0), (2, .ref 70), (3, .int 6)]) rfl ?_)
      refine go_goto (pc := 663) (tgt := 18) (by decide) dL_law_663 ?_
      refine go_iload_n (pc := 18) rfl dL_law_18 ?_
      refine go_aload_nS (pc := 19) rfl dL_law_19 ?_
      refine go_slen (pc := 20) (L := 6) (fun b s q => q) rfl dL_law_20 (go_topi (y := 6) (by decide +kernel) ?_)
      refine go_bipush (pc := 21) (v := 6) (by decide) dL_law_21 ?_
      refine go_isub (pc := 23) dL_law_23 (go_topi (y := 0) (by decide) ?_)
      refine go_icmp_gt (pc := 24) (tgt := 666) (by decide) dL_law_24 (fun _ => ?_) (fun q => absurd q (by decide))
      refine go_iconst (pc := 666) (v := 1) (by decide) dL_law_666 ?_
      exact go_iret (pc := 667) rfl rfl hpN (Nat.le_of_ble_eq_true rfl) dL_law_667
    ·
      refine go_aload_n (pc := 450) rfl dL_law_450 ?_
      refine go_aload_nS (pc := 451) rfl dL_law_451 ?_
      refine go_iload_n (pc := 452) rfl dL_law_452 ?_
      refine go_iconst (pc := 453) (v := 1) (by decide) dL_law_453 ?_
      refine go_iadd (pc := 454) dL_law_454 (go_topi (y := 1) (by decide) ?_)
      refine go_sldj (pc := 455) (i := 1) (j := 1) (L := 6) (fun b s q => q) rfl (by decide +kernel) (by decide +kernel) dL_law_455 ?_
      refine go_aload_nS (pc := 456) rfl dL_law_456 ?_
      refine go_iload_n (pc := 457) rfl dL_law_457 ?_
      refine go_iconst (pc := 458) (v := 2) (by decide) dL_law_458 ?_
      refine go_iadd (pc := 459) dL_law_459 (go_topi (y := 2) (by decide) ?_)
      refine go_sldj (pc := 460) (i := 2) (j := 2) (L := 6) (fun b s q => q) rfl (by decide +kernel) (by decide +kernel) dL_law_460 ?_
      refine go_invV (pc := 461) (sl := 32419) (k65_X8_between l xs) mL_L_68 iM_X8_between sM_X8_between (g_sh hpS rfl) rfl rfl rfl (Nat.le_of_ble_eq_true rfl) (Nat.le_of_ble_eq_true rfl) (Nat.le_of_ble_eq_true rfl) (g_cl hpN (Nat.le_of_ble_eq_true rfl)) (Nat.le_of_ble_eq_true rfl) dL_law_461 ?_
      intro r h' hq _
      obtain ⟨rfl, rfl⟩ := hq
      refine go_lcmp (pc := 464) dL_law_464 (go_topi (y := 0) (by decide) ?_)
      refine go_if_eq (pc := 465) (tgt := 660) (by decide) dL_law_465 (fun _ => ?_) (fun q => absurd q (by decide))
      refine go_iincv (pc := 660) (y := 6) (Nat.le_of_ble_eq_true rfl) rfl (by decide) dL_law_660 (go_lv (lv2 := [(0, .retAddr 0), (1, .ref 0), (2, .ref 70), (3, .int 6)]) rfl ?_)
      refine go_goto (pc := 663) (tgt := 18) (by decide) dL_law_663 ?_
      refine go_iload_n (pc := 18) rfl dL_law_18 ?_
      refine go_aload_nS (pc := 19) rfl dL_law_19 ?_
      refine go_slen (pc := 20) (L := 6) (fun b s q => q) rfl dL_law_20 (go_topi (y := 6) (by decide +kernel) ?_)
      refine go_bipush (pc := 21) (v := 6) (by decide) dL_law_21 ?_
      refine go_isub (pc := 23) dL_law_23 (go_topi (y := 0) (by decide) ?_)
      refine go_icmp_gt (pc := 24) (tgt := 666) (by decide) dL_law_24 (fun _ => ?_) (fun q => absurd q (by decide))
      refine go_iconst (pc := 666) (v := 1) (by decide) dL_law_666 ?_
      exact go_iret (pc := 667) rfl rfl hpN (Nat.le_of_ble_eq_true rfl) dL_law_667
  by_cases q13 : ((xs 0) &&& 31) = 12
  ·
    refine go_tableIn (pc := 33) (tgt := 470) (off := 437) (by rw [q13]; decide) (by rw [q13]; decide) (by rw [q13]; decide) (by decide) dL_law_33 ?_
    refine go_aload_n (pc := 470) rfl dL_law_470 ?_
    refine go_aload_nS (pc := 471) rfl dL_law_471 ?_
    refine go_iload_n (pc := 472) rfl dL_law_472 ?_
    refine go_iconst (pc := 473) (v := 1) (by decide) dL_law_473 ?_
    refine go_iadd (pc := 474) dL_law_474 (go_topi (y := 1) (by decide) ?_)
    refine go_sldj (pc := 475) (i := 1) (j := 1) (L := 6) (fun b s q => q) rfl (by decide +kernel) (by decide +kernel) dL_law_475 ?_
    refine go_aload_nS (pc := 476) rfl dL_law_476 ?_
    refine go_iload_n (pc := 477) rfl dL_law_477 ?_
    refine go_iconst (pc := 478) (v := 2) (by decide) dL_law_478 ?_
    refine go_iadd (pc := 479) dL_law_479 (go_topi (y := 2) (by decide) ?_)
    refine go_sldj (pc := 480) (i := 2) (j := 2) (L := 6) (fun b s q => q) rfl (by decide +kernel) (by decide +kernel) dL_law_480 ?_
    refine go_invV (pc := 481) (sl := 32419) (k66_X7_backOf l xs) mL_L_69 iM_X7_backOf sM_X7_backOf (g_sh hpS rfl) rfl rfl rfl (Nat.le_of_ble_eq_true rfl) (Nat.le_of_ble_eq_true rfl) (Nat.le_of_ble_eq_true rfl) (g_cl hpN (Nat.le_of_ble_eq_true rfl)) (Nat.le_of_ble_eq_true rfl) dL_law_481 ?_
    intro r h' hq _
    rcases hq with ⟨q14, rfl, rfl⟩ | ⟨q14, q15, rfl, rfl⟩
    ·
      refine go_aload_n (pc := 484) rfl dL_law_484 ?_
      refine go_aload_nS (pc := 485) rfl dL_law_485 ?_
      refine go_iload_n (pc := 486) rfl dL_law_486 ?_
      refine go_iconst (pc := 487) (v := 1) (by decide) dL_law_487 ?_
      refine go_iadd (pc := 488) dL_law_488 (go_topi (y := 1) (by decide) ?_)
      refine go_sldj (pc := 489) (i := 1) (j := 1) (L := 6) (fun b s q => q) rfl (by decide +kernel) (by decide +kernel) dL_law_489 ?_
      refine go_aload_nS (pc := 490) rfl dL_law_490 ?_
      refine go_iload_n (pc := 491) rfl dL_law_491 ?_
      refine go_iconst (pc := 492) (v := 2) (by decide) dL_law_492 ?_
      refine go_iadd (pc := 493) dL_law_493 (go_topi (y := 2) (by decide) ?_)
      refine go_sldj (pc := 494) (i := 2) (j := 2) (L := 6) (fun b s q => q) rfl (by decide +kernel) (by decide +kernel) dL_law_494 ?_
      refine go_invV (pc := 495) (sl := 32419) (k68_X8_backOf l xs) mL_L_72 iM_X8_backOf sM_X8_backOf (g_sh hpS rfl) rfl rfl rfl (Nat.le_of_ble_eq_true rfl) (Nat.le_of_ble_eq_true rfl) (Nat.le_of_ble_eq_true rfl) (g_cl hpN (Nat.le_of_ble_eq_true rfl)) (Nat.le_of_ble_eq_true rfl) dL_law_495 ?_
      intro r h' hq _
      obtain ⟨rfl, rfl⟩ := hq
      refine go_lcmp (pc := 498) dL_law_498 (go_topi (y := 0) (by decide) ?_)
      refine go_if_eq (pc := 499) (tgt := 660) (by decide) dL_law_499 (fun _ => ?_) (fun q => absurd q (by decide))
      refine go_iincv (pc := 660) (y := 6) (Nat.le_of_ble_eq_true rfl) rfl (by decide) dL_law_660 (go_lv (lv2 := [(0, .retAddr 0), (1, .ref 0), (2, .ref 70), (3, .int 6)]) rfl ?_)
      refine go_goto (pc := 663) (tgt := 18) (by decide) dL_law_663 ?_
      refine go_iload_n (pc := 18) rfl dL_law_18 ?_
      refine go_aload_nS (pc := 19) rfl dL_law_19 ?_
      refine go_slen (pc := 20) (L := 6) (fun b s q => q) rfl dL_law_20 (go_topi (y := 6) (by decide +kernel) ?_)
      refine go_bipush (pc := 21) (v := 6) (by decide) dL_law_21 ?_
      refine go_isub (pc := 23) dL_law_23 (go_topi (y := 0) (by decide) ?_)
      refine go_icmp_gt (pc := 24) (tgt := 666) (by decide) dL_law_24 (fun _ => ?_) (fun q => absurd q (by decide))
      refine go_iconst (pc := 666) (v := 1) (by decide) dL_law_666 ?_
      exact go_iret (pc := 667) rfl rfl (g_lnI hpN) (Nat.le_of_ble_eq_true rfl) dL_law_667
    ·
      refine go_aload_n (pc := 484) rfl dL_law_484 ?_
      refine go_aload_nS (pc := 485) rfl dL_law_485 ?_
      refine go_iload_n (pc := 486) rfl dL_law_486 ?_
      refine go_iconst (pc := 487) (v := 1) (by decide) dL_law_487 ?_
      refine go_iadd (pc := 488) dL_law_488 (go_topi (y := 1) (by decide) ?_)
      refine go_sldj (pc := 489) (i := 1) (j := 1) (L := 6) (fun b s q => q) rfl (by decide +kernel) (by decide +kernel) dL_law_489 ?_
      refine go_aload_nS (pc := 490) rfl dL_law_490 ?_
      refine go_iload_n (pc := 491) rfl dL_law_491 ?_
      refine go_iconst (pc := 492) (v := 2) (by decide) dL_law_492 ?_
      refine go_iadd (pc := 493) dL_law_493 (go_topi (y := 2) (by decide) ?_)
      refine go_sldj (pc := 494) (i := 2) (j := 2) (L := 6) (fun b s q => q) rfl (by decide +kernel) (by decide +kernel) dL_law_494 ?_
      refine go_invV (pc := 495) (sl := 32419) (k68_X8_backOf l xs) mL_L_72 iM_X8_backOf sM_X8_backOf (g_sh hpS rfl) rfl rfl rfl (Nat.le_of_ble_eq_true rfl) (Nat.le_of_ble_eq_true rfl) (Nat.le_of_ble_eq_true rfl) (g_cl hpN (Nat.le_of_ble_eq_true rfl)) (Nat.le_of_ble_eq_true rfl) dL_law_495 ?_
      intro r h' hq _
      obtain ⟨rfl, rfl⟩ := hq
      refine go_lcmp (pc := 498) dL_law_498 (go_topi (y := 0) (by decide) ?_)
      refine go_if_eq (pc := 499) (tgt := 660) (by decide) dL_law_499 (fun _ => ?_) (fun q => absurd q (by decide))
      refine go_iincv (pc := 660) (y := 6) (Nat.le_of_ble_eq_true rfl) rfl (by decide) dL_law_660 (go_lv (lv2 := [(0, .retAddr 0), (1, .ref 0), (2, .ref 70), (3, .int 6)]) rfl ?_)
      refine go_goto (pc := 663) (tgt := 18) (by decide) dL_law_663 ?_
      refine go_iload_n (pc := 18) rfl dL_law_18 ?_
      refine go_aload_nS (pc := 19) rfl dL_law_19 ?_
      refine go_slen (pc := 20) (L := 6) (fun b s q => q) rfl dL_law_20 (go_topi (y := 6) (by decide +kernel) ?_)
      refine go_bipush (pc := 21) (v := 6) (by decide) dL_law_21 ?_
      refine go_isub (pc := 23) dL_law_23 (go_topi (y := 0) (by decide) ?_)
      refine go_icmp_gt (pc := 24) (tgt := 666) (by decide) dL_law_24 (fun _ => ?_) (fun q => absurd q (by decide))
      refine go_iconst (pc := 666) (v := 1) (by decide) dL_law_666 ?_
      exact go_iret (pc := 667) rfl rfl (g_lnI hpN) (Nat.le_of_ble_eq_true rfl) dL_law_667
  by_cases q14 : ((xs 0) &&& 31) = 13
  ·
    refine go_tableIn (pc := 33) (tgt := 504) (off := 471) (by rw [q14]; decide) (by rw [q14]; decide) (by rw [q14]; decide) (by decide) dL_law_33 ?_
    refine go_aload_n (pc := 504) rfl dL_law_504 ?_
    refine go_aload_nS (pc := 505) rfl dL_law_505 ?_
    refine go_iload_n (pc := 506) rfl dL_law_506 ?_
    refine go_iconst (pc := 507) (v := 1) (by decide) dL_law_507 ?_
    refine go_iadd (pc := 508) dL_law_508 (go_topi (y := 1) (by decide) ?_)
    refine go_sldj (pc := 509) (i := 1) (j := 1) (L := 6) (fun b s q => q) rfl (by decide +kernel) (by decide +kernel) dL_law_509 ?_
    refine go_invV (pc := 510) (sl := 32419) (k69_X7_kept l xs) mL_L_73 iM_X7_kept sM_X7_kept (g_sh hpS rfl) rfl rfl rfl (Nat.le_of_ble_eq_true rfl) (Nat.le_of_ble_eq_true rfl) (Nat.le_of_ble_eq_true rfl) (g_cl hpN (Nat.le_of_ble_eq_true rfl)) (Nat.le_of_ble_eq_true rfl) dL_law_510 ?_
    intro r h' hq _
    rcases hq with ⟨q15, rfl, rfl⟩ | ⟨q15, q16, rfl, rfl⟩
    ·
      refine go_aload_n (pc := 513) rfl dL_law_513 ?_
      refine go_aload_nS (pc := 514) rfl dL_law_514 ?_
      refine go_iload_n (pc := 515) rfl dL_law_515 ?_
      refine go_iconst (pc := 516) (v := 1) (by decide) dL_law_516 ?_
      refine go_iadd (pc := 517) dL_law_517 (go_topi (y := 1) (by decide) ?_)
      refine go_sldj (pc := 518) (i := 1) (j := 1) (L := 6) (fun b s q => q) rfl (by decide +kernel) (by decide +kernel) dL_law_518 ?_
      refine go_invV (pc := 519) (sl := 32419) (k70_X8_kept l xs) mL_L_76 iM_X8_kept sM_X8_kept (g_sh hpS rfl) rfl rfl rfl (Nat.le_of_ble_eq_true rfl) (Nat.le_of_ble_eq_true rfl) (Nat.le_of_ble_eq_true rfl) (g_cl hpN (Nat.le_of_ble_eq_true rfl)) (Nat.le_of_ble_eq_true rfl) dL_law_519 ?_
      intro r h' hq _
      obtain ⟨rfl, rfl⟩ := hq
      refine go_lcmp (pc := 522) dL_law_522 (go_topi (y := 0) (by decide) ?_)
      refine go_if_eq (pc := 523) (tgt := 660) (by decide) dL_law_523 (fun _ => ?_) (fun q => absurd q (by decide))
      refine go_iincv (pc := 660) (y := 6) (Nat.le_of_ble_eq_true rfl) rfl (by decide) dL_law_660 (go_lv (lv2 := [(0, .retAddr 0), (1, .ref 0), (2, .ref 70), (3, .int 6)]) rfl ?_)
      refine go_goto (pc := 663) (tgt := 18) (by decide) dL_law_663 ?_
      refine go_iload_n (pc := 18) rfl dL_law_18 ?_
      refine go_aload_nS (pc := 19) rfl dL_law_19 ?_
      refine go_slen (pc := 20) (L := 6) (fun b s q => q) rfl dL_law_20 (go_topi (y := 6) (by decide +kernel) ?_)
      refine go_bipush (pc := 21) (v := 6) (by decide) dL_law_21 ?_
      refine go_isub (pc := 23) dL_law_23 (go_topi (y := 0) (by decide) ?_)
      refine go_icmp_gt (pc := 24) (tgt := 666) (by decide) dL_law_24 (fun _ => ?_) (fun q => absurd q (by decide))
      refine go_iconst (pc := 666) (v := 1) (by decide) dL_law_666 ?_
      exact go_iret (pc := 667) rfl rfl hpN (Nat.le_of_ble_eq_true rfl) dL_law_667
    ·
      refine go_aload_n (pc := 513) rfl dL_law_513 ?_
      refine go_aload_nS (pc := 514) rfl dL_law_514 ?_
      refine go_iload_n (pc := 515) rfl dL_law_515 ?_
      refine go_iconst (pc := 516) (v := 1) (by decide) dL_law_516 ?_
      refine go_iadd (pc := 517) dL_law_517 (go_topi (y := 1) (by decide) ?_)
      refine go_sldj (pc := 518) (i := 1) (j := 1) (L := 6) (fun b s q => q) rfl (by decide +kernel) (by decide +kernel) dL_law_518 ?_
      refine go_invV (pc := 519) (sl := 32419) (k70_X8_kept l xs) mL_L_76 iM_X8_kept sM_X8_kept (g_sh hpS rfl) rfl rfl rfl (Nat.le_of_ble_eq_true rfl) (Nat.le_of_ble_eq_true rfl) (Nat.le_of_ble_eq_true rfl) (g_cl hpN (Nat.le_of_ble_eq_true rfl)) (Nat.le_of_ble_eq_true rfl) dL_law_519 ?_
      intro r h' hq _
      obtain ⟨rfl, rfl⟩ := hq
      refine go_lcmp (pc := 522) dL_law_522 (go_topi (y := 0) (by decide) ?_)
      refine go_if_eq (pc := 523) (tgt := 660) (by decide) dL_law_523 (fun _ => ?_) (fun q => absurd q (by decide))
      refine go_iincv (pc := 660) (y := 6) (Nat.le_of_ble_eq_true rfl) rfl (by decide) dL_law_660 (go_lv (lv2 := [(0, .retAddr 0), (1, .ref 0), (2, .ref 70), (3, .int 6)]) rfl ?_)
      refine go_goto (pc := 663) (tgt := 18) (by decide) dL_law_663 ?_
      refine go_iload_n (pc := 18) rfl dL_law_18 ?_
      refine go_aload_nS (pc := 19) rfl dL_law_19 ?_
      refine go_slen (pc := 20) (L := 6) (fun b s q => q) rfl dL_law_20 (go_topi (y := 6) (by decide +kernel) ?_)
      refine go_bipush (pc := 21) (v := 6) (by decide) dL_law_21 ?_
      refine go_isub (pc := 23) dL_law_23 (go_topi (y := 0) (by decide) ?_)
      refine go_icmp_gt (pc := 24) (tgt := 666) (by decide) dL_law_24 (fun _ => ?_) (fun q => absurd q (by decide))
      refine go_iconst (pc := 666) (v := 1) (by decide) dL_law_666 ?_
      exact go_iret (pc := 667) rfl rfl hpN (Nat.le_of_ble_eq_true rfl) dL_law_667
  by_cases q15 : ((xs 0) &&& 31) = 14
  ·
    refine go_tableIn (pc := 33) (tgt := 528) (off := 495) (by rw [q15]; decide) (by rw [q15]; decide) (by rw [q15]; decide) (by decide) dL_law_33 ?_
    refine go_aload_n (pc := 528) rfl dL_law_528 ?_
    refine go_aload_nS (pc := 529) rfl dL_law_529 ?_
    refine go_iload_n (pc := 530) rfl dL_law_530 ?_
    refine go_iconst (pc := 531) (v := 1) (by decide) dL_law_531 ?_
    refine go_iadd (pc := 532) dL_law_532 (go_topi (y := 1) (by decide) ?_)
    refine go_sldj (pc := 533) (i := 1) (j := 1) (L := 6) (fun b s q => q) rfl (by decide +kernel) (by decide +kernel) dL_law_533 ?_
    refine go_aload_nS (pc := 534) rfl dL_law_534 ?_
    refine go_iload_n (pc := 535) rfl dL_law_535 ?_
    refine go_iconst (pc := 536) (v := 2) (by decide) dL_law_536 ?_
    refine go_iadd (pc := 537) dL_law_537 (go_topi (y := 2) (by decide) ?_)
    refine go_sldj (pc := 538) (i := 2) (j := 2) (L := 6) (fun b s q => q) rfl (by decide +kernel) (by decide +kernel) dL_law_538 ?_
    refine go_invV (pc := 539) (sl := 32419) (k71_X7_run l xs) mL_L_77 iM_X7_run sM_X7_run (g_sh hpS rfl) rfl rfl rfl (Nat.le_of_ble_eq_true rfl) (Nat.le_of_ble_eq_true rfl) (Nat.le_of_ble_eq_true rfl) (g_cl hpN (Nat.le_of_ble_eq_true rfl)) (Nat.le_of_ble_eq_true rfl) dL_law_539 ?_
    intro r h' hq _
    obtain ⟨rfl, rfl⟩ := hq
    refine go_aload_n (pc := 542) rfl dL_law_542 ?_
    refine go_aload_nS (pc := 543) rfl dL_law_543 ?_
    refine go_iload_n (pc := 544) rfl dL_law_544 ?_
    refine go_iconst (pc := 545) (v := 1) (by decide) dL_law_545 ?_
    refine go_iadd (pc := 546) dL_law_546 (go_topi (y := 1) (by decide) ?_)
    refine go_sldj (pc := 547) (i := 1) (j := 1) (L := 6) (fun b s q => q) rfl (by decide +kernel) (by decide +kernel) dL_law_547 ?_
    refine go_aload_nS (pc := 548) rfl dL_law_548 ?_
    refine go_iload_n (pc := 549) rfl dL_law_549 ?_
    refine go_iconst (pc := 550) (v := 2) (by decide) dL_law_550 ?_
    refine go_iadd (pc := 551) dL_law_551 (go_topi (y := 2) (by decide) ?_)
    refine go_sldj (pc := 552) (i := 2) (j := 2) (L := 6) (fun b s q => q) rfl (by decide +kernel) (by decide +kernel) dL_law_552 ?_
    refine go_invV (pc := 553) (sl := 32419) (k72_X8_run l xs) mL_L_80 iM_X8_run sM_X8_run (g_sh hpS rfl) rfl rfl rfl (Nat.le_of_ble_eq_true rfl) (Nat.le_of_ble_eq_true rfl) (Nat.le_of_ble_eq_true rfl) (g_cl hpN (Nat.le_of_ble_eq_true rfl)) (Nat.le_of_ble_eq_true rfl) dL_law_553 ?_
    intro r h' hq _
    obtain ⟨rfl, rfl⟩ := hq
    refine go_icmp_eq (pc := 556) (tgt := 660) (by decide) dL_law_556 (fun _ => ?_) (fun q => absurd q (by decide))
    refine go_iincv (pc := 660) (y := 6) (Nat.le_of_ble_eq_true rfl) rfl (by decide) dL_law_660 (go_lv (lv2 := [(0, .retAddr 0), (1, .ref 0), (2, .ref 70), (3, .int 6)]) rfl ?_)
    refine go_goto (pc := 663) (tgt := 18) (by decide) dL_law_663 ?_
    refine go_iload_n (pc := 18) rfl dL_law_18 ?_
    refine go_aload_nS (pc := 19) rfl dL_law_19 ?_
    refine go_slen (pc := 20) (L := 6) (fun b s q => q) rfl dL_law_20 (go_topi (y := 6) (by decide +kernel) ?_)
    refine go_bipush (pc := 21) (v := 6) (by decide) dL_law_21 ?_
    refine go_isub (pc := 23) dL_law_23 (go_topi (y := 0) (by decide) ?_)
    refine go_icmp_gt (pc := 24) (tgt := 666) (by decide) dL_law_24 (fun _ => ?_) (fun q => absurd q (by decide))
    refine go_iconst (pc := 666) (v := 1) (by decide) dL_law_666 ?_
    exact go_iret (pc := 667) rfl rfl hpN (Nat.le_of_ble_eq_true rfl) dL_law_667
  by_cases q16 : ((xs 0) &&& 31) = 15
  ·
    refine go_tableIn (pc := 33) (tgt := 561) (off := 528) (by rw [q16]; decide) (by rw [q16]; decide) (by rw [q16]; decide) (by decide) dL_law_33 ?_
    refine go_aload_n (pc := 561) rfl dL_law_561 ?_
    refine go_aload_nS (pc := 562) rfl dL_law_562 ?_
    refine go_iload_n (pc := 563) rfl dL_law_563 ?_
    refine go_iconst (pc := 564) (v := 1) (by decide) dL_law_564 ?_
    refine go_iadd (pc := 565) dL_law_565 (go_topi (y := 1) (by decide) ?_)
    refine go_sldj (pc := 566) (i := 1) (j := 1) (L := 6) (fun b s q => q) rfl (by decide +kernel) (by decide +kernel) dL_law_566 ?_
    refine go_aload_nS (pc := 567) rfl dL_law_567 ?_
    refine go_iload_n (pc := 568) rfl dL_law_568 ?_
    refine go_iconst (pc := 569) (v := 2) (by decide) dL_law_569 ?_
    refine go_iadd (pc := 570) dL_law_570 (go_topi (y := 2) (by decide) ?_)
    refine go_sldj (pc := 571) (i := 2) (j := 2) (L := 6) (fun b s q => q) rfl (by decide +kernel) (by decide +kernel) dL_law_571 ?_
    refine go_aload_nS (pc := 572) rfl dL_law_572 ?_
    refine go_iload_n (pc := 573) rfl dL_law_573 ?_
    refine go_iconst (pc := 574) (v := 3) (by decide) dL_law_574 ?_
    refine go_iadd (pc := 575) dL_law_575 (go_topi (y := 3) (by decide) ?_)
    refine go_sldj (pc := 576) (i := 3) (j := 3) (L := 6) (fun b s q => q) rfl (by decide +kernel) (by decide +kernel) dL_law_576 ?_
    refine go_invV (pc := 577) (sl := 32419) (k73_X7_runKept l xs) mL_L_81 iM_X7_runKept sM_X7_runKept (g_sh hpS rfl) rfl rfl rfl (Nat.le_of_ble_eq_true rfl) (Nat.le_of_ble_eq_true rfl) (Nat.le_of_ble_eq_true rfl) (g_cl hpN (Nat.le_of_ble_eq_true rfl)) (Nat.le_of_ble_eq_true rfl) dL_law_577 ?_
    intro r h' hq _
    rcases hq with ⟨q17, rfl, rfl⟩ | ⟨q17, q18, rfl, rfl⟩
    ·
      refine go_aload_n (pc := 580) rfl dL_law_580 ?_
      refine go_aload_nS (pc := 581) rfl dL_law_581 ?_
      refine go_iload_n (pc := 582) rfl dL_law_582 ?_
      refine go_iconst (pc := 583) (v := 1) (by decide) dL_law_583 ?_
      refine go_iadd (pc := 584) dL_law_584 (go_topi (y := 1) (by decide) ?_)
      refine go_sldj (pc := 585) (i := 1) (j := 1) (L := 6) (fun b s q => q) rfl (by decide +kernel) (by decide +kernel) dL_law_585 ?_
      refine go_aload_nS (pc := 586) rfl dL_law_586 ?_
      refine go_iload_n (pc := 587) rfl dL_law_587 ?_
      refine go_iconst (pc := 588) (v := 2) (by decide) dL_law_588 ?_
      refine go_iadd (pc := 589) dL_law_589 (go_topi (y := 2) (by decide) ?_)
      refine go_sldj (pc := 590) (i := 2) (j := 2) (L := 6) (fun b s q => q) rfl (by decide +kernel) (by decide +kernel) dL_law_590 ?_
      refine go_aload_nS (pc := 591) rfl dL_law_591 ?_
      refine go_iload_n (pc := 592) rfl dL_law_592 ?_
      refine go_iconst (pc := 593) (v := 3) (by decide) dL_law_593 ?_
      refine go_iadd (pc := 594) dL_law_594 (go_topi (y := 3) (by decide) ?_)
      refine go_sldj (pc := 595) (i := 3) (j := 3) (L := 6) (fun b s q => q) rfl (by decide +kernel) (by decide +kernel) dL_law_595 ?_
      refine go_invV (pc := 596) (sl := 32419) (k74_X8_runKept l xs) mL_L_85 iM_X8_runKept sM_X8_runKept (g_sh hpS rfl) rfl rfl rfl (Nat.le_of_ble_eq_true rfl) (Nat.le_of_ble_eq_true rfl) (Nat.le_of_ble_eq_true rfl) (g_cl hpN (Nat.le_of_ble_eq_true rfl)) (Nat.le_of_ble_eq_true rfl) dL_law_596 ?_
      intro r h' hq _
      obtain ⟨rfl, rfl⟩ := hq
      refine go_icmp_eq (pc := 599) (tgt := 660) (by decide) dL_law_599 (fun _ => ?_) (fun q => absurd q (by decide))
      refine go_iincv (pc := 660) (y := 6) (Nat.le_of_ble_eq_true rfl) rfl (by decide) dL_law_660 (go_lv (lv2 := [(0, .retAddr 0), (1, .ref 0), (2, .ref 70), (3, .int 6)]) rfl ?_)
      refine go_goto (pc := 663) (tgt := 18) (by decide) dL_law_663 ?_
      refine go_iload_n (pc := 18) rfl dL_law_18 ?_
      refine go_aload_nS (pc := 19) rfl dL_law_19 ?_
      refine go_slen (pc := 20) (L := 6) (fun b s q => q) rfl dL_law_20 (go_topi (y := 6) (by decide +kernel) ?_)
      refine go_bipush (pc := 21) (v := 6) (by decide) dL_law_21 ?_
      refine go_isub (pc := 23) dL_law_23 (go_topi (y := 0) (by decide) ?_)
      refine go_icmp_gt (pc := 24) (tgt := 666) (by decide) dL_law_24 (fun _ => ?_) (fun q => absurd q (by decide))
      refine go_iconst (pc := 666) (v := 1) (by decide) dL_law_666 ?_
      exact go_iret (pc := 667) rfl rfl hpN (Nat.le_of_ble_eq_true rfl) dL_law_667
    ·
      refine go_aload_n (pc := 580) rfl dL_law_580 ?_
      refine go_aload_nS (pc := 581) rfl dL_law_581 ?_
      refine go_iload_n (pc := 582) rfl dL_law_582 ?_
      refine go_iconst (pc := 583) (v := 1) (by decide) dL_law_583 ?_
      refine go_iadd (pc := 584) dL_law_584 (go_topi (y := 1) (by decide) ?_)
      refine go_sldj (pc := 585) (i := 1) (j := 1) (L := 6) (fun b s q => q) rfl (by decide +kernel) (by decide +kernel) dL_law_585 ?_
      refine go_aload_nS (pc := 586) rfl dL_law_586 ?_
      refine go_iload_n (pc := 587) rfl dL_law_587 ?_
      refine go_iconst (pc := 588) (v := 2) (by decide) dL_law_588 ?_
      refine go_iadd (pc := 589) dL_law_589 (go_topi (y := 2) (by decide) ?_)
      refine go_sldj (pc := 590) (i := 2) (j := 2) (L := 6) (fun b s q => q) rfl (by decide +kernel) (by decide +kernel) dL_law_590 ?_
      refine go_aload_nS (pc := 591) rfl dL_law_591 ?_
      refine go_iload_n (pc := 592) rfl dL_law_592 ?_
      refine go_iconst (pc := 593) (v := 3) (by decide) dL_law_593 ?_
      refine go_iadd (pc := 594) dL_law_594 (go_topi (y := 3) (by decide) ?_)
      refine go_sldj (pc := 595) (i := 3) (j := 3) (L := 6) (fun b s q => q) rfl (by decide +kernel) (by decide +kernel) dL_law_595 ?_
      refine go_invV (pc := 596) (sl := 32419) (k74_X8_runKept l xs) mL_L_85 iM_X8_runKept sM_X8_runKept (g_sh hpS rfl) rfl rfl rfl (Nat.le_of_ble_eq_true rfl) (Nat.le_of_ble_eq_true rfl) (Nat.le_of_ble_eq_true rfl) (g_cl hpN (Nat.le_of_ble_eq_true rfl)) (Nat.le_of_ble_eq_true rfl) dL_law_596 ?_
      intro r h' hq _
      obtain ⟨rfl, rfl⟩ := hq
      refine go_icmp_eq (pc := 599) (tgt := 660) (by decide) dL_law_599 (fun _ => ?_) (fun q => absurd q (by decide))
      refine go_iincv (pc := 660) (y := 6) (Nat.le_of_ble_eq_true rfl) rfl (by decide) dL_law_660 (go_lv (lv2 := [(0, .retAddr 0), (1, .ref 0), (2, .ref 70), (3, .int 6)]) rfl ?_)
      refine go_goto (pc := 663) (tgt := 18) (by decide) dL_law_663 ?_
      refine go_iload_n (pc := 18) rfl dL_law_18 ?_
      refine go_aload_nS (pc := 19) rfl dL_law_19 ?_
      refine go_slen (pc := 20) (L := 6) (fun b s q => q) rfl dL_law_20 (go_topi (y := 6) (by decide +kernel) ?_)
      refine go_bipush (pc := 21) (v := 6) (by decide) dL_law_21 ?_
      refine go_isub (pc := 23) dL_law_23 (go_topi (y := 0) (by decide) ?_)
      refine go_icmp_gt (pc := 24) (tgt := 666) (by decide) dL_law_24 (fun _ => ?_) (fun q => absurd q (by decide))
      refine go_iconst (pc := 666) (v := 1) (by decide) dL_law_666 ?_
      exact go_iret (pc := 667) rfl rfl hpN (Nat.le_of_ble_eq_true rfl) dL_law_667
  by_cases q17 : ((xs 0) &&& 31) = 16
  ·
    refine go_tableIn (pc := 33) (tgt := 604) (off := 571) (by rw [q17]; decide) (by rw [q17]; decide) (by rw [q17]; decide) (by decide) dL_law_33 ?_
    refine go_aload_n (pc := 604) rfl dL_law_604 ?_
    refine go_aload_nS (pc := 605) rfl dL_law_605 ?_
    refine go_iload_n (pc := 606) rfl dL_law_606 ?_
    refine go_iconst (pc := 607) (v := 1) (by decide) dL_law_607 ?_
    refine go_iadd (pc := 608) dL_law_608 (go_topi (y := 1) (by decide) ?_)
    refine go_sldj (pc := 609) (i := 1) (j := 1) (L := 6) (fun b s q => q) rfl (by decide +kernel) (by decide +kernel) dL_law_609 ?_
    refine go_invV (pc := 610) (sl := 32419) (k76_X7_ended l xs) mL_L_86 iM_X7_ended sM_X7_ended (g_sh hpS rfl) rfl rfl rfl (Nat.le_of_ble_eq_true rfl) (Nat.le_of_ble_eq_true rfl) (Nat.le_of_ble_eq_true rfl) (g_cl hpN (Nat.le_of_ble_eq_true rfl)) (Nat.le_of_ble_eq_true rfl) dL_law_610 ?_
    intro r h' hq _
    obtain ⟨rfl, rfl⟩ := hq
    refine go_aload_n (pc := 613) rfl dL_law_613 ?_
    refine go_aload_nS (pc := 614) rfl dL_law_614 ?_
    refine go_iload_n (pc := 615) rfl dL_law_615 ?_
    refine go_iconst (pc := 616) (v := 1) (by decide) dL_law_616 ?_
    refine go_iadd (pc := 617) dL_law_617 (go_topi (y := 1) (by decide) ?_)
    refine go_sldj (pc := 618) (i := 1) (j := 1) (L := 6) (fun b s q => q) rfl (by decide +kernel) (by decide +kernel) dL_law_618 ?_
    refine go_invV (pc := 619) (sl := 32419) (k77_X8_ended l xs) mL_L_89 iM_X8_ended sM_X8_ended (g_sh hpS rfl) rfl rfl rfl (Nat.le_of_ble_eq_true rfl) (Nat.le_of_ble_eq_true rfl) (Nat.le_of_ble_eq_true rfl) (g_cl hpN (Nat.le_of_ble_eq_true rfl)) (Nat.le_of_ble_eq_true rfl) dL_law_619 ?_
    intro r h' hq _
    obtain ⟨rfl, rfl⟩ := hq
    refine go_icmp_eq (pc := 622) (tgt := 660) (by decide) dL_law_622 (fun _ => ?_) (fun q => absurd q (by decide))
    refine go_iincv (pc := 660) (y := 6) (Nat.le_of_ble_eq_true rfl) rfl (by decide) dL_law_660 (go_lv (lv2 := [(0, .retAddr 0), (1, .ref 0), (2, .ref 70), (3, .int 6)]) rfl ?_)
    refine go_goto (pc := 663) (tgt := 18) (by decide) dL_law_663 ?_
    refine go_iload_n (pc := 18) rfl dL_law_18 ?_
    refine go_aload_nS (pc := 19) rfl dL_law_19 ?_
    refine go_slen (pc := 20) (L := 6) (fun b s q => q) rfl dL_law_20 (go_topi (y := 6) (by decide +kernel) ?_)
    refine go_bipush (pc := 21) (v := 6) (by decide) dL_law_21 ?_
    refine go_isub (pc := 23) dL_law_23 (go_topi (y := 0) (by decide) ?_)
    refine go_icmp_gt (pc := 24) (tgt := 666) (by decide) dL_law_24 (fun _ => ?_) (fun q => absurd q (by decide))
    refine go_iconst (pc := 666) (v := 1) (by decide) dL_law_666 ?_
    exact go_iret (pc := 667) rfl rfl hpN (Nat.le_of_ble_eq_true rfl) dL_law_667
  by_cases q18 : ((xs 0) &&& 31) = 17
  ·
    refine go_tableIn (pc := 33) (tgt := 627) (off := 594) (by rw [q18]; decide) (by rw [q18]; decide) (by rw [q18]; decide) (by decide) dL_law_33 ?_
    refine go_aload_n (pc := 627) rfl dL_law_627 ?_
    refine go_aload_nS (pc := 628) rfl dL_law_628 ?_
    refine go_iload_n (pc := 629) rfl dL_law_629 ?_
    refine go_iconst (pc := 630) (v := 1) (by decide) dL_law_630 ?_
    refine go_iadd (pc := 631) dL_law_631 (go_topi (y := 1) (by decide) ?_)
    refine go_sldj (pc := 632) (i := 1) (j := 1) (L := 6) (fun b s q => q) rfl (by decide +kernel) (by decide +kernel) dL_law_632 ?_
    refine go_aload_nS (pc := 633) rfl dL_law_633 ?_
    refine go_iload_n (pc := 634) rfl dL_law_634 ?_
    refine go_iconst (pc := 635) (v := 2) (by decide) dL_law_635 ?_
    refine go_iadd (pc := 636) dL_law_636 (go_topi (y := 2) (by decide) ?_)
    refine go_sldj (pc := 637) (i := 2) (j := 2) (L := 6) (fun b s q => q) rfl (by decide +kernel) (by decide +kernel) dL_law_637 ?_
    refine go_invV (pc := 638) (sl := 32419) (k78_X7_saw l xs) mL_L_90 iM_X7_saw sM_X7_saw (g_sh hpS rfl) rfl rfl rfl (Nat.le_of_ble_eq_true rfl) (Nat.le_of_ble_eq_true rfl) (Nat.le_of_ble_eq_true rfl) (g_cl hpN (Nat.le_of_ble_eq_true rfl)) (Nat.le_of_ble_eq_true rfl) dL_law_638 ?_
    intro r h' hq _
    rcases hq with ⟨q19, rfl, rfl⟩ | ⟨q19, q20, rfl, rfl⟩
    ·
      refine go_aload_n (pc := 641) rfl dL_law_641 ?_
      refine go_aload_nS (pc := 642) rfl dL_law_642 ?_
      refine go_iload_n (pc := 643) rfl dL_law_643 ?_
      refine go_iconst (pc := 644) (v := 1) (by decide) dL_law_644 ?_
      refine go_iadd (pc := 645) dL_law_645 (go_topi (y := 1) (by decide) ?_)
      refine go_sldj (pc := 646) (i := 1) (j := 1) (L := 6) (fun b s q => q) rfl (by decide +kernel) (by decide +kernel) dL_law_646 ?_
      refine go_aload_nS (pc := 647) rfl dL_law_647 ?_
      refine go_iload_n (pc := 648) rfl dL_law_648 ?_
      refine go_iconst (pc := 649) (v := 2) (by decide) dL_law_649 ?_
      refine go_iadd (pc := 650) dL_law_650 (go_topi (y := 2) (by decide) ?_)
      refine go_sldj (pc := 651) (i := 2) (j := 2) (L := 6) (fun b s q => q) rfl (by decide +kernel) (by decide +kernel) dL_law_651 ?_
      refine go_invV (pc := 652) (sl := 32419) (k79_X8_saw l xs) mL_L_93 iM_X8_saw sM_X8_saw (g_sh hpS rfl) rfl rfl rfl (Nat.le_of_ble_eq_true rfl) (Nat.le_of_ble_eq_true rfl) (Nat.le_of_ble_eq_true rfl) (g_cl hpN (Nat.le_of_ble_eq_true rfl)) (Nat.le_of_ble_eq_true rfl) dL_law_652 ?_
      intro r h' hq _
      obtain ⟨rfl, rfl⟩ := hq
      refine go_icmp_eq (pc := 655) (tgt := 660) (by decide) dL_law_655 (fun _ => ?_) (fun q => absurd q (by decide))
      refine go_iincv (pc := 660) (y := 6) (Nat.le_of_ble_eq_true rfl) rfl (by decide) dL_law_660 (go_lv (lv2 := [(0, .retAddr 0), (1, .ref 0), (2, .ref 70), (3, .int 6)]) rfl ?_)
      refine go_goto (pc := 663) (tgt := 18) (by decide) dL_law_663 ?_
      refine go_iload_n (pc := 18) rfl dL_law_18 ?_
      refine go_aload_nS (pc := 19) rfl dL_law_19 ?_
      refine go_slen (pc := 20) (L := 6) (fun b s q => q) rfl dL_law_20 (go_topi (y := 6) (by decide +kernel) ?_)
      refine go_bipush (pc := 21) (v := 6) (by decide) dL_law_21 ?_
      refine go_isub (pc := 23) dL_law_23 (go_topi (y := 0) (by decide) ?_)
      refine go_icmp_gt (pc := 24) (tgt := 666) (by decide) dL_law_24 (fun _ => ?_) (fun q => absurd q (by decide))
      refine go_iconst (pc := 666) (v := 1) (by decide) dL_law_666 ?_
      exact go_iret (pc := 667) rfl rfl hpN (Nat.le_of_ble_eq_true rfl) dL_law_667
    ·
      refine go_aload_n (pc := 641) rfl dL_law_641 ?_
      refine go_aload_nS (pc := 642) rfl dL_law_642 ?_
      refine go_iload_n (pc := 643) rfl dL_law_643 ?_
      refine go_iconst (pc := 644) (v := 1) (by decide) dL_law_644 ?_
      refine go_iadd (pc := 645) dL_law_645 (go_topi (y := 1) (by decide) ?_)
      refine go_sldj (pc := 646) (i := 1) (j := 1) (L := 6) (fun b s q => q) rfl (by decide +kernel) (by decide +kernel) dL_law_646 ?_
      refine go_aload_nS (pc := 647) rfl dL_law_647 ?_
      refine go_iload_n (pc := 648) rfl dL_law_648 ?_
      refine go_iconst (pc := 649) (v := 2) (by decide) dL_law_649 ?_
      refine go_iadd (pc := 650) dL_law_650 (go_topi (y := 2) (by decide) ?_)
      refine go_sldj (pc := 651) (i := 2) (j := 2) (L := 6) (fun b s q => q) rfl (by decide +kernel) (by decide +kernel) dL_law_651 ?_
      refine go_invV (pc := 652) (sl := 32419) (k79_X8_saw l xs) mL_L_93 iM_X8_saw sM_X8_saw (g_sh hpS rfl) rfl rfl rfl (Nat.le_of_ble_eq_true rfl) (Nat.le_of_ble_eq_true rfl) (Nat.le_of_ble_eq_true rfl) (g_cl hpN (Nat.le_of_ble_eq_true rfl)) (Nat.le_of_ble_eq_true rfl) dL_law_652 ?_
      intro r h' hq _
      obtain ⟨rfl, rfl⟩ := hq
      refine go_icmp_eq (pc := 655) (tgt := 660) (by decide) dL_law_655 (fun _ => ?_) (fun q => absurd q (by decide))
      refine go_iincv (pc := 660) (y := 6) (Nat.le_of_ble_eq_true rfl) rfl (by decide) dL_law_660 (go_lv (lv2 := [(0, .retAddr 0), (1, .ref 0), (2, .ref 70), (3, .int 6)]) rfl ?_)
      refine go_goto (pc := 663) (tgt := 18) (by decide) dL_law_663 ?_
      refine go_iload_n (pc := 18) rfl dL_law_18 ?_
      refine go_aload_nS (pc := 19) rfl dL_law_19 ?_
      refine go_slen (pc := 20) (L := 6) (fun b s q => q) rfl dL_law_20 (go_topi (y := 6) (by decide +kernel) ?_)
      refine go_bipush (pc := 21) (v := 6) (by decide) dL_law_21 ?_
      refine go_isub (pc := 23) dL_law_23 (go_topi (y := 0) (by decide) ?_)
      refine go_icmp_gt (pc := 24) (tgt := 666) (by decide) dL_law_24 (fun _ => ?_) (fun q => absurd q (by decide))
      refine go_iconst (pc := 666) (v := 1) (by decide) dL_law_666 ?_
      exact go_iret (pc := 667) rfl rfl hpN (Nat.le_of_ble_eq_true rfl) dL_law_667
  refine go_tableOut (pc := 33) (tgt := 660) (g_out0_17 q1 q2 q3 q4 q5 q6 q7 q8 q9 q10 q11 q12 q13 q14 q15 q16 q17 q18) (by decide) dL_law_33 ?_
  refine go_iincv (pc := 660) (y := 6) (Nat.le_of_ble_eq_true rfl) rfl (by decide) dL_law_660 (go_lv (lv2 := [(0, .retAddr 0), (1, .ref 0), (2, .ref 70), (3, .int 6)]) rfl ?_)
  refine go_goto (pc := 663) (tgt := 18) (by decide) dL_law_663 ?_
  refine go_iload_n (pc := 18) rfl dL_law_18 ?_
  refine go_aload_nS (pc := 19) rfl dL_law_19 ?_
  refine go_slen (pc := 20) (L := 6) (fun b s q => q) rfl dL_law_20 (go_topi (y := 6) (by decide +kernel) ?_)
  refine go_bipush (pc := 21) (v := 6) (by decide) dL_law_21 ?_
  refine go_isub (pc := 23) dL_law_23 (go_topi (y := 0) (by decide) ?_)
  refine go_icmp_gt (pc := 24) (tgt := 666) (by decide) dL_law_24 (fun _ => ?_) (fun q => absurd q (by decide))
  refine go_iconst (pc := 666) (v := 1) (by decide) dL_law_666 ?_
  exact go_iret (pc := 667) rfl rfl hpN (Nat.le_of_ble_eq_true rfl) dL_law_667
set_option maxHeartbeats 40000000 in
set_option maxRecDepth 100000 in
theorem law_0 (l : Launch) (nm : String) (xs : Nat → Int32) : Go l RL cL_law 4 room_1 nm (some .boolean) 0 117 7302250 (fun b s => va_X b 0 xs s s.heap ∧ b < s.heap.size) (fun r _ => r = some (.int 1)) 0 0 [(0, .retAddr 0)] [] hpE := by
  refine go_new (pc := 0) (sl := 0) (ci := 7) rfl cL_L_7 oC_X7 nC_X7 (Nat.le_of_ble_eq_true rfl) (Nat.le_of_ble_eq_true rfl) dL_law_0 ?_
  refine go_dup (pc := 3) rfl dL_law_3 ?_
  refine go_invI (pc := 4) (sl := 8) (k9_X7_init l) mL_L_9 iM_X7_init rfl rfl rfl (Nat.le_of_ble_eq_true rfl) (Nat.le_of_ble_eq_true rfl) (Nat.le_of_ble_eq_true rfl) (Nat.le_of_ble_eq_true rfl) (Nat.le_of_ble_eq_true rfl) dL_law_4 ?_
  intro r h' hq _
  obtain ⟨rfl, rfl⟩ := hq
  refine go_astore_n (pc := 7) (Nat.le_of_ble_eq_true rfl) dL_law_7 (go_lv (lv2 := [(0, .retAddr 0), (1, .ref 0)]) rfl ?_)
  refine go_new (pc := 8) (sl := 12382) (ci := 8) rfl cL_L_10 oC_X8 nC_X8 (Nat.le_of_ble_eq_true rfl) (Nat.le_of_ble_eq_true rfl) dL_law_8 ?_
  refine go_dup (pc := 11) rfl dL_law_11 ?_
  refine go_invI (pc := 12) (sl := 12442) (k10_X8_init l) mL_L_12 iM_X8_init rfl rfl rfl (Nat.le_of_ble_eq_true rfl) (Nat.le_of_ble_eq_true rfl) (Nat.le_of_ble_eq_true rfl) (Nat.le_of_ble_eq_true rfl) (Nat.le_of_ble_eq_true rfl) dL_law_12 ?_
  intro r h' hq _
  obtain ⟨rfl, rfl⟩ := hq
  refine go_astore_n (pc := 15) (Nat.le_of_ble_eq_true rfl) dL_law_15 (go_lv (lv2 := [(0, .retAddr 0), (1, .ref 0), (2, .ref 70)]) rfl ?_)
  refine go_iconst (pc := 16) (v := 0) (by decide) dL_law_16 ?_
  refine go_istore_n (pc := 17) (Nat.le_of_ble_eq_true rfl) dL_law_17 (go_lv (lv2 := [(0, .retAddr 0), (1, .ref 0), (2, .ref 70), (3, .int 0)]) rfl ?_)
  refine go_iload_n (pc := 18) rfl dL_law_18 ?_
  refine go_aload_nS (pc := 19) rfl dL_law_19 ?_
  refine go_slen (pc := 20) (L := 0) (fun b s q => q) rfl dL_law_20 (go_topi (y := 0) (by decide +kernel) ?_)
  refine go_bipush (pc := 21) (v := 6) (by decide) dL_law_21 ?_
  refine go_isub (pc := 23) dL_law_23 (go_topi (y := (-6)) (by decide) ?_)
  refine go_icmp_gt (pc := 24) (tgt := 666) (by decide) dL_law_24 (fun _ => ?_) (fun q => absurd q (by decide))
  refine go_iconst (pc := 666) (v := 1) (by decide) dL_law_666 ?_
  exact go_iret (pc := 667) rfl rfl hpN (Nat.le_of_ble_eq_true rfl) dL_law_667
set_option maxHeartbeats 40000000 in
set_option maxRecDepth 100000 in
theorem law_1 (l : Launch) (nm : String) (xs : Nat → Int32) : Go l RL cL_law 4 room_1 nm (some .boolean) 0 117 7302250 (fun b s => va_X b 1 xs s s.heap ∧ b < s.heap.size) (fun r _ => r = some (.int 1)) 0 0 [(0, .retAddr 0)] [] hpE := by
  refine go_new (pc := 0) (sl := 0) (ci := 7) rfl cL_L_7 oC_X7 nC_X7 (Nat.le_of_ble_eq_true rfl) (Nat.le_of_ble_eq_true rfl) dL_law_0 ?_
  refine go_dup (pc := 3) rfl dL_law_3 ?_
  refine go_invI (pc := 4) (sl := 8) (k9_X7_init l) mL_L_9 iM_X7_init rfl rfl rfl (Nat.le_of_ble_eq_true rfl) (Nat.le_of_ble_eq_true rfl) (Nat.le_of_ble_eq_true rfl) (Nat.le_of_ble_eq_true rfl) (Nat.le_of_ble_eq_true rfl) dL_law_4 ?_
  intro r h' hq _
  obtain ⟨rfl, rfl⟩ := hq
  refine go_astore_n (pc := 7) (Nat.le_of_ble_eq_true rfl) dL_law_7 (go_lv (lv2 := [(0, .retAddr 0), (1, .ref 0)]) rfl ?_)
  refine go_new (pc := 8) (sl := 12382) (ci := 8) rfl cL_L_10 oC_X8 nC_X8 (Nat.le_of_ble_eq_true rfl) (Nat.le_of_ble_eq_true rfl) dL_law_8 ?_
  refine go_dup (pc := 11) rfl dL_law_11 ?_
  refine go_invI (pc := 12) (sl := 12442) (k10_X8_init l) mL_L_12 iM_X8_init rfl rfl rfl (Nat.le_of_ble_eq_true rfl) (Nat.le_of_ble_eq_true rfl) (Nat.le_of_ble_eq_true rfl) (Nat.le_of_ble_eq_true rfl) (Nat.le_of_ble_eq_true rfl) dL_law_12 ?_
  intro r h' hq _
  obtain ⟨rfl, rfl⟩ := hq
  refine go_astore_n (pc := 15) (Nat.le_of_ble_eq_true rfl) dL_law_15 (go_lv (lv2 := [(0, .retAddr 0), (1, .ref 0), (2, .ref 70)]) rfl ?_)
  refine go_iconst (pc := 16) (v := 0) (by decide) dL_law_16 ?_
  refine go_istore_n (pc := 17) (Nat.le_of_ble_eq_true rfl) dL_law_17 (go_lv (lv2 := [(0, .retAddr 0), (1, .ref 0), (2, .ref 70), (3, .int 0)]) rfl ?_)
  refine go_iload_n (pc := 18) rfl dL_law_18 ?_
  refine go_aload_nS (pc := 19) rfl dL_law_19 ?_
  refine go_slen (pc := 20) (L := 1) (fun b s q => q) rfl dL_law_20 (go_topi (y := 1) (by decide +kernel) ?_)
  refine go_bipush (pc := 21) (v := 6) (by decide) dL_law_21 ?_
  refine go_isub (pc := 23) dL_law_23 (go_topi (y := (-5)) (by decide) ?_)
  refine go_icmp_gt (pc := 24) (tgt := 666) (by decide) dL_law_24 (fun _ => ?_) (fun q => absurd q (by decide))
  refine go_iconst (pc := 666) (v := 1) (by decide) dL_law_666 ?_
  exact go_iret (pc := 667) rfl rfl hpN (Nat.le_of_ble_eq_true rfl) dL_law_667
set_option maxHeartbeats 40000000 in
set_option maxRecDepth 100000 in
theorem law_2 (l : Launch) (nm : String) (xs : Nat → Int32) : Go l RL cL_law 4 room_1 nm (some .boolean) 0 117 7302250 (fun b s => va_X b 2 xs s s.heap ∧ b < s.heap.size) (fun r _ => r = some (.int 1)) 0 0 [(0, .retAddr 0)] [] hpE := by
  refine go_new (pc := 0) (sl := 0) (ci := 7) rfl cL_L_7 oC_X7 nC_X7 (Nat.le_of_ble_eq_true rfl) (Nat.le_of_ble_eq_true rfl) dL_law_0 ?_
  refine go_dup (pc := 3) rfl dL_law_3 ?_
  refine go_invI (pc := 4) (sl := 8) (k9_X7_init l) mL_L_9 iM_X7_init rfl rfl rfl (Nat.le_of_ble_eq_true rfl) (Nat.le_of_ble_eq_true rfl) (Nat.le_of_ble_eq_true rfl) (Nat.le_of_ble_eq_true rfl) (Nat.le_of_ble_eq_true rfl) dL_law_4 ?_
  intro r h' hq _
  obtain ⟨rfl, rfl⟩ := hq
  refine go_astore_n (pc := 7) (Nat.le_of_ble_eq_true rfl) dL_law_7 (go_lv (lv2 := [(0, .retAddr 0), (1, .ref 0)]) rfl ?_)
  refine go_new (pc := 8) (sl := 12382) (ci := 8) rfl cL_L_10 oC_X8 nC_X8 (Nat.le_of_ble_eq_true rfl) (Nat.le_of_ble_eq_true rfl) dL_law_8 ?_
  refine go_dup (pc := 11) rfl dL_law_11 ?_
  refine go_invI (pc := 12) (sl := 12442) (k10_X8_init l) mL_L_12 iM_X8_init rfl rfl rfl (Nat.le_of_ble_eq_true rfl) (Nat.le_of_ble_eq_true rfl) (Nat.le_of_ble_eq_true rfl) (Nat.le_of_ble_eq_true rfl) (Nat.le_of_ble_eq_true rfl) dL_law_12 ?_
  intro r h' hq _
  obtain ⟨rfl, rfl⟩ := hq
  refine go_astore_n (pc := 15) (Nat.le_of_ble_eq_true rfl) dL_law_15 (go_lv (lv2 := [(0, .retAddr 0), (1, .ref 0), (2, .ref 70)]) rfl ?_)
  refine go_iconst (pc := 16) (v := 0) (by decide) dL_law_16 ?_
  refine go_istore_n (pc := 17) (Nat.le_of_ble_eq_true rfl) dL_law_17 (go_lv (lv2 := [(0, .retAddr 0), (1, .ref 0), (2, .ref 70), (3, .int 0)]) rfl ?_)
  refine go_iload_n (pc := 18) rfl dL_law_18 ?_
  refine go_aload_nS (pc := 19) rfl dL_law_19 ?_
  refine go_slen (pc := 20) (L := 2) (fun b s q => q) rfl dL_law_20 (go_topi (y := 2) (by decide +kernel) ?_)
  refine go_bipush (pc := 21) (v := 6) (by decide) dL_law_21 ?_
  refine go_isub (pc := 23) dL_law_23 (go_topi (y := (-4)) (by decide) ?_)
  refine go_icmp_gt (pc := 24) (tgt := 666) (by decide) dL_law_24 (fun _ => ?_) (fun q => absurd q (by decide))
  refine go_iconst (pc := 666) (v := 1) (by decide) dL_law_666 ?_
  exact go_iret (pc := 667) rfl rfl hpN (Nat.le_of_ble_eq_true rfl) dL_law_667
set_option maxHeartbeats 40000000 in
set_option maxRecDepth 100000 in
theorem law_3 (l : Launch) (nm : String) (xs : Nat → Int32) : Go l RL cL_law 4 room_1 nm (some .boolean) 0 117 7302250 (fun b s => va_X b 3 xs s s.heap ∧ b < s.heap.size) (fun r _ => r = some (.int 1)) 0 0 [(0, .retAddr 0)] [] hpE := by
  refine go_new (pc := 0) (sl := 0) (ci := 7) rfl cL_L_7 oC_X7 nC_X7 (Nat.le_of_ble_eq_true rfl) (Nat.le_of_ble_eq_true rfl) dL_law_0 ?_
  refine go_dup (pc := 3) rfl dL_law_3 ?_
  refine go_invI (pc := 4) (sl := 8) (k9_X7_init l) mL_L_9 iM_X7_init rfl rfl rfl (Nat.le_of_ble_eq_true rfl) (Nat.le_of_ble_eq_true rfl) (Nat.le_of_ble_eq_true rfl) (Nat.le_of_ble_eq_true rfl) (Nat.le_of_ble_eq_true rfl) dL_law_4 ?_
  intro r h' hq _
  obtain ⟨rfl, rfl⟩ := hq
  refine go_astore_n (pc := 7) (Nat.le_of_ble_eq_true rfl) dL_law_7 (go_lv (lv2 := [(0, .retAddr 0), (1, .ref 0)]) rfl ?_)
  refine go_new (pc := 8) (sl := 12382) (ci := 8) rfl cL_L_10 oC_X8 nC_X8 (Nat.le_of_ble_eq_true rfl) (Nat.le_of_ble_eq_true rfl) dL_law_8 ?_
  refine go_dup (pc := 11) rfl dL_law_11 ?_
  refine go_invI (pc := 12) (sl := 12442) (k10_X8_init l) mL_L_12 iM_X8_init rfl rfl rfl (Nat.le_of_ble_eq_true rfl) (Nat.le_of_ble_eq_true rfl) (Nat.le_of_ble_eq_true rfl) (Nat.le_of_ble_eq_true rfl) (Nat.le_of_ble_eq_true rfl) dL_law_12 ?_
  intro r h' hq _
  obtain ⟨rfl, rfl⟩ := hq
  refine go_astore_n (pc := 15) (Nat.le_of_ble_eq_true rfl) dL_law_15 (go_lv (lv2 := [(0, .retAddr 0), (1, .ref 0), (2, .ref 70)]) rfl ?_)
  refine go_iconst (pc := 16) (v := 0) (by decide) dL_law_16 ?_
  refine go_istore_n (pc := 17) (Nat.le_of_ble_eq_true rfl) dL_law_17 (go_lv (lv2 := [(0, .retAddr 0), (1, .ref 0), (2, .ref 70), (3, .int 0)]) rfl ?_)
  refine go_iload_n (pc := 18) rfl dL_law_18 ?_
  refine go_aload_nS (pc := 19) rfl dL_law_19 ?_
  refine go_slen (pc := 20) (L := 3) (fun b s q => q) rfl dL_law_20 (go_topi (y := 3) (by decide +kernel) ?_)
  refine go_bipush (pc := 21) (v := 6) (by decide) dL_law_21 ?_
  refine go_isub (pc := 23) dL_law_23 (go_topi (y := (-3)) (by decide) ?_)
  refine go_icmp_gt (pc := 24) (tgt := 666) (by decide) dL_law_24 (fun _ => ?_) (fun q => absurd q (by decide))
  refine go_iconst (pc := 666) (v := 1) (by decide) dL_law_666 ?_
  exact go_iret (pc := 667) rfl rfl hpN (Nat.le_of_ble_eq_true rfl) dL_law_667
set_option maxHeartbeats 40000000 in
set_option maxRecDepth 100000 in
theorem law_4 (l : Launch) (nm : String) (xs : Nat → Int32) : Go l RL cL_law 4 room_1 nm (some .boolean) 0 117 7302250 (fun b s => va_X b 4 xs s s.heap ∧ b < s.heap.size) (fun r _ => r = some (.int 1)) 0 0 [(0, .retAddr 0)] [] hpE := by
  refine go_new (pc := 0) (sl := 0) (ci := 7) rfl cL_L_7 oC_X7 nC_X7 (Nat.le_of_ble_eq_true rfl) (Nat.le_of_ble_eq_true rfl) dL_law_0 ?_
  refine go_dup (pc := 3) rfl dL_law_3 ?_
  refine go_invI (pc := 4) (sl := 8) (k9_X7_init l) mL_L_9 iM_X7_init rfl rfl rfl (Nat.le_of_ble_eq_true rfl) (Nat.le_of_ble_eq_true rfl) (Nat.le_of_ble_eq_true rfl) (Nat.le_of_ble_eq_true rfl) (Nat.le_of_ble_eq_true rfl) dL_law_4 ?_
  intro r h' hq _
  obtain ⟨rfl, rfl⟩ := hq
  refine go_astore_n (pc := 7) (Nat.le_of_ble_eq_true rfl) dL_law_7 (go_lv (lv2 := [(0, .retAddr 0), (1, .ref 0)]) rfl ?_)
  refine go_new (pc := 8) (sl := 12382) (ci := 8) rfl cL_L_10 oC_X8 nC_X8 (Nat.le_of_ble_eq_true rfl) (Nat.le_of_ble_eq_true rfl) dL_law_8 ?_
  refine go_dup (pc := 11) rfl dL_law_11 ?_
  refine go_invI (pc := 12) (sl := 12442) (k10_X8_init l) mL_L_12 iM_X8_init rfl rfl rfl (Nat.le_of_ble_eq_true rfl) (Nat.le_of_ble_eq_true rfl) (Nat.le_of_ble_eq_true rfl) (Nat.le_of_ble_eq_true rfl) (Nat.le_of_ble_eq_true rfl) dL_law_12 ?_
  intro r h' hq _
  obtain ⟨rfl, rfl⟩ := hq
  refine go_astore_n (pc := 15) (Nat.le_of_ble_eq_true rfl) dL_law_15 (go_lv (lv2 := [(0, .retAddr 0), (1, .ref 0), (2, .ref 70)]) rfl ?_)
  refine go_iconst (pc := 16) (v := 0) (by decide) dL_law_16 ?_
  refine go_istore_n (pc := 17) (Nat.le_of_ble_eq_true rfl) dL_law_17 (go_lv (lv2 := [(0, .retAddr 0), (1, .ref 0), (2, .ref 70), (3, .int 0)]) rfl ?_)
  refine go_iload_n (pc := 18) rfl dL_law_18 ?_
  refine go_aload_nS (pc := 19) rfl dL_law_19 ?_
  refine go_slen (pc := 20) (L := 4) (fun b s q => q) rfl dL_law_20 (go_topi (y := 4) (by decide +kernel) ?_)
  refine go_bipush (pc := 21) (v := 6) (by decide) dL_law_21 ?_
  refine go_isub (pc := 23) dL_law_23 (go_topi (y := (-2)) (by decide) ?_)
  refine go_icmp_gt (pc := 24) (tgt := 666) (by decide) dL_law_24 (fun _ => ?_) (fun q => absurd q (by decide))
  refine go_iconst (pc := 666) (v := 1) (by decide) dL_law_666 ?_
  exact go_iret (pc := 667) rfl rfl hpN (Nat.le_of_ble_eq_true rfl) dL_law_667
set_option maxHeartbeats 40000000 in
set_option maxRecDepth 100000 in
theorem law_5 (l : Launch) (nm : String) (xs : Nat → Int32) : Go l RL cL_law 4 room_1 nm (some .boolean) 0 117 7302250 (fun b s => va_X b 5 xs s s.heap ∧ b < s.heap.size) (fun r _ => r = some (.int 1)) 0 0 [(0, .retAddr 0)] [] hpE := by
  refine go_new (pc := 0) (sl := 0) (ci := 7) rfl cL_L_7 oC_X7 nC_X7 (Nat.le_of_ble_eq_true rfl) (Nat.le_of_ble_eq_true rfl) dL_law_0 ?_
  refine go_dup (pc := 3) rfl dL_law_3 ?_
  refine go_invI (pc := 4) (sl := 8) (k9_X7_init l) mL_L_9 iM_X7_init rfl rfl rfl (Nat.le_of_ble_eq_true rfl) (Nat.le_of_ble_eq_true rfl) (Nat.le_of_ble_eq_true rfl) (Nat.le_of_ble_eq_true rfl) (Nat.le_of_ble_eq_true rfl) dL_law_4 ?_
  intro r h' hq _
  obtain ⟨rfl, rfl⟩ := hq
  refine go_astore_n (pc := 7) (Nat.le_of_ble_eq_true rfl) dL_law_7 (go_lv (lv2 := [(0, .retAddr 0), (1, .ref 0)]) rfl ?_)
  refine go_new (pc := 8) (sl := 12382) (ci := 8) rfl cL_L_10 oC_X8 nC_X8 (Nat.le_of_ble_eq_true rfl) (Nat.le_of_ble_eq_true rfl) dL_law_8 ?_
  refine go_dup (pc := 11) rfl dL_law_11 ?_
  refine go_invI (pc := 12) (sl := 12442) (k10_X8_init l) mL_L_12 iM_X8_init rfl rfl rfl (Nat.le_of_ble_eq_true rfl) (Nat.le_of_ble_eq_true rfl) (Nat.le_of_ble_eq_true rfl) (Nat.le_of_ble_eq_true rfl) (Nat.le_of_ble_eq_true rfl) dL_law_12 ?_
  intro r h' hq _
  obtain ⟨rfl, rfl⟩ := hq
  refine go_astore_n (pc := 15) (Nat.le_of_ble_eq_true rfl) dL_law_15 (go_lv (lv2 := [(0, .retAddr 0), (1, .ref 0), (2, .ref 70)]) rfl ?_)
  refine go_iconst (pc := 16) (v := 0) (by decide) dL_law_16 ?_
  refine go_istore_n (pc := 17) (Nat.le_of_ble_eq_true rfl) dL_law_17 (go_lv (lv2 := [(0, .retAddr 0), (1, .ref 0), (2, .ref 70), (3, .int 0)]) rfl ?_)
  refine go_iload_n (pc := 18) rfl dL_law_18 ?_
  refine go_aload_nS (pc := 19) rfl dL_law_19 ?_
  refine go_slen (pc := 20) (L := 5) (fun b s q => q) rfl dL_law_20 (go_topi (y := 5) (by decide +kernel) ?_)
  refine go_bipush (pc := 21) (v := 6) (by decide) dL_law_21 ?_
  refine go_isub (pc := 23) dL_law_23 (go_topi (y := (-1)) (by decide) ?_)
  refine go_icmp_gt (pc := 24) (tgt := 666) (by decide) dL_law_24 (fun _ => ?_) (fun q => absurd q (by decide))
  refine go_iconst (pc := 666) (v := 1) (by decide) dL_law_666 ?_
  exact go_iret (pc := 667) rfl rfl hpN (Nat.le_of_ble_eq_true rfl) dL_law_667
