set_option maxHeartbeats 8000000 in
theorem c_Mo_init (l : Launch) (D : va_G) (g : GM) (I : MI) (J : MJ) {m : Nat} (m0 : g.1 m = (6, 0)) (hz : g.2.2 = m + 1) : Ct l yMo_init bMo_init 1 none (rmA 2 42 26 44666) D [.ref m] g I J (fun v g2 I2 J2 => v = none ∧ MoAt g2 m ∧ g2.2.2 = m + 27 ∧ oldG m g I J g2 I2 J2 ∧ (∀ k, k ≠ 30 → I2 m k = I m k) ∧ I2 m 30 = 0 ∧ (∀ j, j < 8 → I2 (m + 12) j = -1) ∧ ∀ c j, 0 < c → c < 27 → c ≠ 12 → I2 (m + c) j = 0) := by
  obtain ⟨sh, r, z⟩ := g
  have hz : z = m + 1 := hz
  subst hz
  have m0 : sh m = (6, 0) := m0
  refine Ct.of (by decide) (ble rfl) [some (.ref m)] rfl ?_
  intro x C M
  refine v_aload_n C 0 dMo_init_0 rfl rfl ?_
  refine v_objI C w665 (ble rfl) (ble rfl) dMo_init_1 ?_
  refine v_aload_n C 0 dMo_init_4 rfl rfl ?_
  refine v_bipush C 6 dMo_init_5 (by decide) ?_
  refine v_newi C 6 (by decide) (by decide) (by decide) (ble rfl) (ble rfl) dMo_init_7 ?_
  refine v_putr C cfMo (k := 2) (n := 0) (by simp only [g_sh]; (repeat rw [if_neg (by omega)]); assumption) rfl w676 rfl M.2.2.2.2.2 rfl rfl rfl dMo_init_9 ?_
  refine v_aload_n C 0 dMo_init_12 rfl rfl ?_
  refine v_bipush C 6 dMo_init_13 (by decide) ?_
  refine v_newi C 6 (by decide) (by decide) (by decide) (ble rfl) (ble rfl) dMo_init_15 ?_
  refine v_putr C cfMo (k := 3) (n := 0) (by simp only [g_sh]; (repeat rw [if_neg (by omega)]); assumption) rfl w677 rfl M.2.2.2.2.2 rfl rfl rfl dMo_init_17 ?_
  refine v_aload_n C 0 dMo_init_20 rfl rfl ?_
  refine v_bipush C 96 dMo_init_21 (by decide) ?_
  refine v_newi C 96 (by decide) (by decide) (by decide) (ble rfl) (ble rfl) dMo_init_23 ?_
  refine v_putr C cfMo (k := 4) (n := 0) (by simp only [g_sh]; (repeat rw [if_neg (by omega)]); assumption) rfl w678 rfl M.2.2.2.2.2 rfl rfl rfl dMo_init_25 ?_
  refine v_aload_n C 0 dMo_init_28 rfl rfl ?_
  refine v_bipush C 48 dMo_init_29 (by decide) ?_
  refine v_newi C 48 (by decide) (by decide) (by decide) (ble rfl) (ble rfl) dMo_init_31 ?_
  refine v_putr C cfMo (k := 6) (n := 0) (by simp only [g_sh]; (repeat rw [if_neg (by omega)]); assumption) rfl w680 rfl M.2.2.2.2.2 rfl rfl rfl dMo_init_33 ?_
  refine v_aload_n C 0 dMo_init_36 rfl rfl ?_
  refine v_bipush C 48 dMo_init_37 (by decide) ?_
  refine v_newi C 48 (by decide) (by decide) (by decide) (ble rfl) (ble rfl) dMo_init_39 ?_
  refine v_putr C cfMo (k := 7) (n := 0) (by simp only [g_sh]; (repeat rw [if_neg (by omega)]); assumption) rfl w681 rfl M.2.2.2.2.2 rfl rfl rfl dMo_init_41 ?_
  refine v_aload_n C 0 dMo_init_44 rfl rfl ?_
  refine v_bipush C 48 dMo_init_45 (by decide) ?_
  refine v_newi C 48 (by decide) (by decide) (by decide) (ble rfl) (ble rfl) dMo_init_47 ?_
  refine v_putr C cfMo (k := 8) (n := 0) (by simp only [g_sh]; (repeat rw [if_neg (by omega)]); assumption) rfl w682 rfl M.2.2.2.2.2 rfl rfl rfl dMo_init_49 ?_
  refine v_aload_n C 0 dMo_init_52 rfl rfl ?_
  refine v_bipush C 48 dMo_init_53 (by decide) ?_
  refine v_newi C 48 (by decide) (by decide) (by decide) (ble rfl) (ble rfl) dMo_init_55 ?_
  refine v_putr C cfMo (k := 9) (n := 0) (by simp only [g_sh]; (repeat rw [if_neg (by omega)]); assumption) rfl w683 rfl M.2.2.2.2.2 rfl rfl rfl dMo_init_57 ?_
  refine v_aload_n C 0 dMo_init_60 rfl rfl ?_
  refine v_bipush C 48 dMo_init_61 (by decide) ?_
  refine v_newi C 48 (by decide) (by decide) (by decide) (ble rfl) (ble rfl) dMo_init_63 ?_
  refine v_putr C cfMo (k := 10) (n := 0) (by simp only [g_sh]; (repeat rw [if_neg (by omega)]); assumption) rfl w684 rfl M.2.2.2.2.2 rfl rfl rfl dMo_init_65 ?_
  refine v_aload_n C 0 dMo_init_68 rfl rfl ?_
  refine v_bipush C 48 dMo_init_69 (by decide) ?_
  refine v_newi C 48 (by decide) (by decide) (by decide) (ble rfl) (ble rfl) dMo_init_71 ?_
  refine v_putr C cfMo (k := 11) (n := 0) (by simp only [g_sh]; (repeat rw [if_neg (by omega)]); assumption) rfl w685 rfl M.2.2.2.2.2 rfl rfl rfl dMo_init_73 ?_
  refine v_aload_n C 0 dMo_init_76 rfl rfl ?_
  refine v_bipush C 48 dMo_init_77 (by decide) ?_
  refine v_newi C 48 (by decide) (by decide) (by decide) (ble rfl) (ble rfl) dMo_init_79 ?_
  refine v_putr C cfMo (k := 12) (n := 0) (by simp only [g_sh]; (repeat rw [if_neg (by omega)]); assumption) rfl w686 rfl M.2.2.2.2.2 rfl rfl rfl dMo_init_81 ?_
  refine v_aload_n C 0 dMo_init_84 rfl rfl ?_
  refine v_bipush C 48 dMo_init_85 (by decide) ?_
  refine v_newi C 48 (by decide) (by decide) (by decide) (ble rfl) (ble rfl) dMo_init_87 ?_
  refine v_putr C cfMo (k := 13) (n := 0) (by simp only [g_sh]; (repeat rw [if_neg (by omega)]); assumption) rfl w687 rfl M.2.2.2.2.2 rfl rfl rfl dMo_init_89 ?_
  refine v_aload_n C 0 dMo_init_92 rfl rfl ?_
  refine v_bipush C 8 dMo_init_93 (by decide) ?_
  refine v_newi C 8 (by decide) (by decide) (by decide) (ble rfl) (ble rfl) dMo_init_95 ?_
  refine v_putr C cfMo (k := 14) (n := 0) (by simp only [g_sh]; (repeat rw [if_neg (by omega)]); assumption) rfl w688 rfl M.2.2.2.2.2 rfl rfl rfl dMo_init_97 ?_
  refine v_aload_n C 0 dMo_init_100 rfl rfl ?_
  refine v_sipush C 14007 dMo_init_101 (by decide) ?_
  refine v_newi C 14007 (by decide) (by decide) (by decide) (ble rfl) (ble rfl) dMo_init_104 ?_
  refine v_putr C cfMo (k := 16) (n := 0) (by simp only [g_sh]; (repeat rw [if_neg (by omega)]); assumption) rfl w690 rfl M.2.2.2.2.2 rfl rfl rfl dMo_init_106 ?_
  refine v_aload_n C 0 dMo_init_109 rfl rfl ?_
  refine v_sipush C 14007 dMo_init_110 (by decide) ?_
  refine v_newl C 14007 (by decide) (by decide) (by decide) (ble rfl) (ble rfl) dMo_init_113 ?_
  refine v_putr C cfMo (k := 17) (n := 0) (by simp only [g_sh]; (repeat rw [if_neg (by omega)]); assumption) rfl w691 rfl M.2.2.2.2.2 rfl rfl rfl dMo_init_115 ?_
  refine v_aload_n C 0 dMo_init_118 rfl rfl ?_
  refine v_sipush C 14007 dMo_init_119 (by decide) ?_
  refine v_newz C 14007 (by decide) (by decide) (by decide) (ble rfl) (ble rfl) dMo_init_122 ?_
  refine v_putr C cfMo (k := 18) (n := 0) (by simp only [g_sh]; (repeat rw [if_neg (by omega)]); assumption) rfl w692 rfl M.2.2.2.2.2 rfl rfl rfl dMo_init_124 ?_
  refine v_aload_n C 0 dMo_init_127 rfl rfl ?_
  refine v_sipush C 2001 dMo_init_128 (by decide) ?_
  refine v_newl C 2001 (by decide) (by decide) (by decide) (ble rfl) (ble rfl) dMo_init_131 ?_
  refine v_putr C cfMo (k := 19) (n := 0) (by simp only [g_sh]; (repeat rw [if_neg (by omega)]); assumption) rfl w693 rfl M.2.2.2.2.2 rfl rfl rfl dMo_init_133 ?_
  refine v_aload_n C 0 dMo_init_136 rfl rfl ?_
  refine v_bipush C 6 dMo_init_137 (by decide) ?_
  refine v_newz C 6 (by decide) (by decide) (by decide) (ble rfl) (ble rfl) dMo_init_139 ?_
  refine v_putr C cfMo (k := 20) (n := 0) (by simp only [g_sh]; (repeat rw [if_neg (by omega)]); assumption) rfl w694 rfl M.2.2.2.2.2 rfl rfl rfl dMo_init_141 ?_
  refine v_aload_n C 0 dMo_init_144 rfl rfl ?_
  refine v_bipush C 6 dMo_init_145 (by decide) ?_
  refine v_newi C 6 (by decide) (by decide) (by decide) (ble rfl) (ble rfl) dMo_init_147 ?_
  refine v_putr C cfMo (k := 21) (n := 0) (by simp only [g_sh]; (repeat rw [if_neg (by omega)]); assumption) rfl w695 rfl M.2.2.2.2.2 rfl rfl rfl dMo_init_149 ?_
  refine v_aload_n C 0 dMo_init_152 rfl rfl ?_
  refine v_bipush C 6 dMo_init_153 (by decide) ?_
  refine v_newi C 6 (by decide) (by decide) (by decide) (ble rfl) (ble rfl) dMo_init_155 ?_
  refine v_putr C cfMo (k := 22) (n := 0) (by simp only [g_sh]; (repeat rw [if_neg (by omega)]); assumption) rfl w696 rfl M.2.2.2.2.2 rfl rfl rfl dMo_init_157 ?_
  refine v_aload_n C 0 dMo_init_160 rfl rfl ?_
  refine v_bipush C 6 dMo_init_161 (by decide) ?_
  refine v_newl C 6 (by decide) (by decide) (by decide) (ble rfl) (ble rfl) dMo_init_163 ?_
  refine v_putr C cfMo (k := 23) (n := 0) (by simp only [g_sh]; (repeat rw [if_neg (by omega)]); assumption) rfl w697 rfl M.2.2.2.2.2 rfl rfl rfl dMo_init_165 ?_
  refine v_aload_n C 0 dMo_init_168 rfl rfl ?_
  refine v_bipush C 6 dMo_init_169 (by decide) ?_
  refine v_newi C 6 (by decide) (by decide) (by decide) (ble rfl) (ble rfl) dMo_init_171 ?_
  refine v_putr C cfMo (k := 24) (n := 0) (by simp only [g_sh]; (repeat rw [if_neg (by omega)]); assumption) rfl w698 rfl M.2.2.2.2.2 rfl rfl rfl dMo_init_173 ?_
  refine v_aload_n C 0 dMo_init_176 rfl rfl ?_
  refine v_bipush C 6 dMo_init_177 (by decide) ?_
  refine v_newi C 6 (by decide) (by decide) (by decide) (ble rfl) (ble rfl) dMo_init_179 ?_
  refine v_putr C cfMo (k := 25) (n := 0) (by simp only [g_sh]; (repeat rw [if_neg (by omega)]); assumption) rfl w699 rfl M.2.2.2.2.2 rfl rfl rfl dMo_init_181 ?_
  refine v_aload_n C 0 dMo_init_184 rfl rfl ?_
  refine v_bipush C 6 dMo_init_185 (by decide) ?_
  refine v_newz C 6 (by decide) (by decide) (by decide) (ble rfl) (ble rfl) dMo_init_187 ?_
  refine v_putr C cfMo (k := 26) (n := 0) (by simp only [g_sh]; (repeat rw [if_neg (by omega)]); assumption) rfl w700 rfl M.2.2.2.2.2 rfl rfl rfl dMo_init_189 ?_
  refine v_aload_n C 0 dMo_init_192 rfl rfl ?_
  refine v_bipush C 48 dMo_init_193 (by decide) ?_
  refine v_newi C 48 (by decide) (by decide) (by decide) (ble rfl) (ble rfl) dMo_init_195 ?_
  refine v_putr C cfMo (k := 32) (n := 0) (by simp only [g_sh]; (repeat rw [if_neg (by omega)]); assumption) rfl w706 rfl M.2.2.2.2.2 rfl rfl rfl dMo_init_197 ?_
  refine v_aload_n C 0 dMo_init_200 rfl rfl ?_
  refine v_bipush C 48 dMo_init_201 (by decide) ?_
  refine v_newi C 48 (by decide) (by decide) (by decide) (ble rfl) (ble rfl) dMo_init_203 ?_
  refine v_putr C cfMo (k := 33) (n := 0) (by simp only [g_sh]; (repeat rw [if_neg (by omega)]); assumption) rfl w707 rfl M.2.2.2.2.2 rfl rfl rfl dMo_init_205 ?_
  refine v_aload_n C 0 dMo_init_208 rfl rfl ?_
  refine v_bipush C 6 dMo_init_209 (by decide) ?_
  refine v_newi C 6 (by decide) (by decide) (by decide) (ble rfl) (ble rfl) dMo_init_211 ?_
  refine v_putr C cfMo (k := 34) (n := 0) (by simp only [g_sh]; (repeat rw [if_neg (by omega)]); assumption) rfl w708 rfl M.2.2.2.2.2 rfl rfl rfl dMo_init_213 ?_
  sorry
