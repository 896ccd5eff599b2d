def moS : List (Nat × Nat) := [(10, 6), (10, 6), (10, 96), (10, 48), (10, 48), (10, 48), (10, 48), (10, 48), (10, 48), (10, 48), (10, 48), (10, 8), (10, 14007), (11, 14007), (12, 14007), (11, 2001), (12, 6), (10, 6), (10, 6), (11, 6), (10, 6), (10, 6), (12, 6), (10, 48), (10, 48), (10, 6)]
def moF : List Nat := [2, 3, 4, 6, 7, 8, 9, 10, 11, 12, 13, 14, 16, 17, 18, 19, 20, 21, 22, 23, 24, 25, 26, 32, 33, 34]
/-- the first k arrays are there -/
def PtG (m k : Nat) (sh : MS) (r : MR) (g : GM) : Prop := g.2.2 = m + 1 + k ∧ g.1 m = (6, 0) ∧ (∀ i, i < k → g.1 (m + 1 + i) = moS.getD i (0, 0)) ∧ (∀ i, i < k → g.2.1 m (moF.getD i 0) = some (m + 1 + i)) ∧ ∀ b, b < m → g.1 b = sh b ∧ g.2.1 b = r b
def PtI (m k : Nat) (I : MI) (J : MJ) (Ic : MI) (Jc : MJ) : Prop := Ic m = I m ∧ (3 ≤ k → ∀ j, Ic (m + 3) j = 0) ∧ (∀ b, b < m → Ic b = I b) ∧ ∀ b, b < m → Jc b = J b
theorem moF_ne : ∀ i, i < 26 → ∀ j, j < 26 → i ≠ j → moF.getD i 0 ≠ moF.getD j 0 := by decide
theorem PtG.step {m k : Nat} {sh : MS} {r : MR} {g : GM} {s : Nat × Nat} {f : Nat} (h : PtG m k sh r g) (hk : k < 26) (hs : moS.getD k (0, 0) = s) (hf : moF.getD k 0 = f) : PtG m (k + 1) sh r ((g_sh g s).1, s2 (g_sh g s).2.1 m f (some g.2.2), (g_sh g s).2.2) := by
  obtain ⟨h1, h2, h3, h4, h5⟩ := h
  refine ⟨by show g.2.2 + 1 = _; omega, ?_, fun i hi => ?_, fun i hi => ?_, fun b hb => ⟨?_, ?_⟩⟩
  · show (if m = g.2.2 then s else g.1 m) = _
    rw [if_neg (by omega)]; exact h2
  · show (if m + 1 + i = g.2.2 then s else g.1 (m + 1 + i)) = _
    by_cases hik : i = k
    · rw [if_pos (by omega), hik, hs]
    · rw [if_neg (by omega)]; exact h3 i (by omega)
  · show s2 (g_sh g s).2.1 m f (some g.2.2) m (moF.getD i 0) = _
    by_cases hik : i = k
    · rw [hik, hf, s2_self, h1]
    · rw [s2_k (by rw [← hf]; exact moF_ne i (by omega) k hk hik)]
      show (if m = g.2.2 then (fun _ => none) else g.2.1 m) _ = _
      rw [if_neg (by omega)]
      exact h4 i (by omega)
  · show (if b = g.2.2 then s else g.1 b) = _
    rw [if_neg (by omega)]; exact (h5 b hb).1
  · show s2 (g_sh g s).2.1 m f (some g.2.2) b = _
    rw [s2_off (by omega)]
    show (if b = g.2.2 then (fun _ => none) else g.2.1 b) = _
    rw [if_neg (by omega)]
    exact (h5 b hb).2
theorem PtI.i {m k : Nat} {I : MI} {J : MJ} {Ic : MI} {Jc : MJ} {z : Nat} (h : PtI m k I J Ic Jc) (hz : z = m + 1 + k) : PtI m (k + 1) I J (z_m Ic z 0) Jc := by
  obtain ⟨h1, h2, h3, h4⟩ := h
  refine ⟨?_, fun hk j => ?_, fun b hb => ?_, h4⟩
  · show (if m = z then (fun _ => 0) else Ic m) = _
    rw [if_neg (by omega)]; exact h1
  · show (if m + 3 = z then (fun _ => 0) else Ic (m + 3)) j = 0
    by_cases h9 : m + 3 = z
    · rw [if_pos h9]
    · rw [if_neg h9]; exact h2 (by omega) j
  · show (if b = z then (fun _ => 0) else Ic b) = _
    rw [if_neg (by omega)]; exact h3 b hb
theorem PtI.j {m k : Nat} {I : MI} {J : MJ} {Ic : MI} {Jc : MJ} {z : Nat} (h : PtI m k I J Ic Jc) (hz : z = m + 1 + k) (hk : 3 ≤ k) : PtI m (k + 1) I J Ic (z_m Jc z 0) := by
  obtain ⟨h1, h2, h3, h4⟩ := h
  refine ⟨h1, fun _ => h2 hk, h3, fun b hb => ?_⟩
  show (if b = z then (fun _ => 0) else Jc b) = _
  rw [if_neg (by omega)]; exact h4 b hb
theorem PtG.all {m : Nat} {sh : MS} {r : MR} {g : GM} (h : PtG m 26 sh r g) : MoAt g m := ⟨h.2.1, h.2.2.1 0 (by decide), h.2.2.1 1 (by decide), h.2.2.1 2 (by decide), h.2.2.1 3 (by decide), h.2.2.1 4 (by decide), h.2.2.1 5 (by decide), h.2.2.1 6 (by decide), h.2.2.1 7 (by decide), h.2.2.1 8 (by decide), h.2.2.1 9 (by decide), h.2.2.1 10 (by decide), h.2.2.1 11 (by decide), h.2.2.1 12 (by decide), h.2.2.1 13 (by decide), h.2.2.1 14 (by decide), h.2.2.1 15 (by decide), h.2.2.1 16 (by decide), h.2.2.1 17 (by decide), h.2.2.1 18 (by decide), h.2.2.1 19 (by decide), h.2.2.1 20 (by decide), h.2.2.1 21 (by decide), h.2.2.1 22 (by decide), h.2.2.1 23 (by decide), h.2.2.1 24 (by decide), h.2.2.1 25 (by decide), h.2.2.2.1 0 (by decide), h.2.2.2.1 1 (by decide), h.2.2.2.1 2 (by decide), h.2.2.2.1 3 (by decide), h.2.2.2.1 4 (by decide), h.2.2.2.1 5 (by decide), h.2.2.2.1 6 (by decide), h.2.2.2.1 7 (by decide), h.2.2.2.1 8 (by decide), h.2.2.2.1 9 (by decide), h.2.2.2.1 10 (by decide), h.2.2.2.1 11 (by decide), h.2.2.2.1 12 (by decide), h.2.2.2.1 13 (by decide), h.2.2.2.1 14 (by decide), h.2.2.2.1 15 (by decide), h.2.2.2.1 16 (by decide), h.2.2.2.1 17 (by decide), h.2.2.2.1 18 (by decide), h.2.2.2.1 19 (by decide), h.2.2.2.1 20 (by decide), h.2.2.2.1 21 (by decide), h.2.2.2.1 22 (by decide), h.2.2.2.1 23 (by decide), h.2.2.2.1 24 (by decide), h.2.2.2.1 25 (by decide)⟩
set_option maxHeartbeats 8000000 in
theorem c_Mo_init (l : Launch) (D : va_G) (g : GM) (I : MI) (J : MJ) {m : Nat} (m0 : g.1 m = (6, 0)) (hz : g.2.2 = m + 1) : Ct l yMo_init bMo_init 1 none (rmA 2 42 26 44666) D [.ref m] g I J (fun v g2 I2 J2 => v = none ∧ MoAt g2 m ∧ g2.2.2 = m + 27 ∧ oldG m g I J g2 I2 J2 ∧ (∀ k, k ≠ 30 → I2 m k = I m k) ∧ I2 m 30 = 0 ∧ (∀ j, j < 8 → I2 (m + 12) j = -1) ∧ ∀ j, I2 (m + 3) j = 0) := by
  obtain ⟨sh, r, z⟩ := g
  have hz : z = m + 1 := hz
  subst hz
  have m0 : sh m = (6, 0) := m0
  refine Ct.of (by decide) (ble rfl) [some (.ref m)] rfl ?_
  intro x C M
  have st26 : ∀ (g : GM) (Ic : MI) (Jc : MJ), PtG m 26 sh r g → PtI m 26 I J Ic Jc → V x g 26 44666 Ic Jc 216 [some (.ref m)] [] := by
    intro g Ic Jc hP hQ
    have hM := hP.all
    obtain ⟨m0, m1, m2, m3, m4, m5, m6, m7, m8, m9, m10, m11, m12, m13, m14, m15, m16, m17, m18, m19, m20, m21, m22, m23, m24, m25, m26, f2, f3, f4, f6, f7, f8, f9, f10, f11, f12, f13, f14, f16, f17, f18, f19, f20, f21, f22, f23, f24, f25, f26, f32, f33, f34⟩ := id hM
    refine v_aload_n C 0 dMo_init_216 rfl rfl ?_
    refine v_callV C (c_Mo_forget (kl x) (kD x) g Ic Jc hM) mwMo_forget cfMo (by assumption) w668 ws21 w666 rfl rfl (ble rfl) (ble rfl) (ble rfl) (ble rfl) (ble rfl) dMo_init_217 ?_
    rintro v g2 I2 J2 ⟨rfl, rfl, rfl, I1, f1, f2, f3⟩
    refine v_vret C M dMo_init_220 (ble rfl) (ble rfl) ⟨rfl, hM, hP.1, ⟨hP.2.2.2.2, fun b hb => ?_, hQ.2.2.2⟩, fun k hk => ?_, f3.2.1, fun j hj => ?_, fun j => ?_⟩
    · rw [f3.2.2.2 b (by omega) (by omega) (by omega), f2 b (by omega)]; exact hQ.2.2.1 b hb
    · rw [f3.2.2.1 k hk, f2 m (by omega), hQ.1]
    · rw [f3.2.2.2 _ (by omega) (by omega) (by omega)]; exact f1 j hj
    · rw [f3.2.2.2 _ (by omega) (by omega) (by omega), f2 _ (by omega)]; exact hQ.2.1 (by decide) j
  have st25 : ∀ (g : GM) (Ic : MI) (Jc : MJ), PtG m 25 sh r g → PtI m 25 I J Ic Jc → V x g 25 44660 Ic Jc 208 [some (.ref m)] [] := by
    intro g Ic Jc hP hQ
    have hz := hP.1
    have hm0 := hP.2.1
    refine v_aload_n C 0 dMo_init_208 rfl rfl ?_
    refine v_bipush C 6 dMo_init_209 (by decide) ?_
    refine v_newi C 6 (by decide) (by decide) (by decide) (ble rfl) (ble rfl) dMo_init_211 ?_
    refine v_putr C cfMo (k := 34) (n := 0) (by simp only [g_sh]; (repeat rw [if_neg (by omega)]); assumption) rfl w708 rfl M.2.2.2.2.2 rfl rfl rfl dMo_init_213 ?_
    exact st26 _ _ _ (hP.step (by decide) rfl rfl) (hQ.i hz)
  have st24 : ∀ (g : GM) (Ic : MI) (Jc : MJ), PtG m 24 sh r g → PtI m 24 I J Ic Jc → V x g 24 44612 Ic Jc 200 [some (.ref m)] [] := by
    intro g Ic Jc hP hQ
    have hz := hP.1
    have hm0 := hP.2.1
    refine v_aload_n C 0 dMo_init_200 rfl rfl ?_
    refine v_bipush C 48 dMo_init_201 (by decide) ?_
    refine v_newi C 48 (by decide) (by decide) (by decide) (ble rfl) (ble rfl) dMo_init_203 ?_
    refine v_putr C cfMo (k := 33) (n := 0) (by simp only [g_sh]; (repeat rw [if_neg (by omega)]); assumption) rfl w707 rfl M.2.2.2.2.2 rfl rfl rfl dMo_init_205 ?_
    exact st25 _ _ _ (hP.step (by decide) rfl rfl) (hQ.i hz)
  have st23 : ∀ (g : GM) (Ic : MI) (Jc : MJ), PtG m 23 sh r g → PtI m 23 I J Ic Jc → V x g 23 44564 Ic Jc 192 [some (.ref m)] [] := by
    intro g Ic Jc hP hQ
    have hz := hP.1
    have hm0 := hP.2.1
    refine v_aload_n C 0 dMo_init_192 rfl rfl ?_
    refine v_bipush C 48 dMo_init_193 (by decide) ?_
    refine v_newi C 48 (by decide) (by decide) (by decide) (ble rfl) (ble rfl) dMo_init_195 ?_
    refine v_putr C cfMo (k := 32) (n := 0) (by simp only [g_sh]; (repeat rw [if_neg (by omega)]); assumption) rfl w706 rfl M.2.2.2.2.2 rfl rfl rfl dMo_init_197 ?_
    exact st24 _ _ _ (hP.step (by decide) rfl rfl) (hQ.i hz)
  have st22 : ∀ (g : GM) (Ic : MI) (Jc : MJ), PtG m 22 sh r g → PtI m 22 I J Ic Jc → V x g 22 44558 Ic Jc 184 [some (.ref m)] [] := by
    intro g Ic Jc hP hQ
    have hz := hP.1
    have hm0 := hP.2.1
    refine v_aload_n C 0 dMo_init_184 rfl rfl ?_
    refine v_bipush C 6 dMo_init_185 (by decide) ?_
    refine v_newz C 6 (by decide) (by decide) (by decide) (ble rfl) (ble rfl) dMo_init_187 ?_
    refine v_putr C cfMo (k := 26) (n := 0) (by simp only [g_sh]; (repeat rw [if_neg (by omega)]); assumption) rfl w700 rfl M.2.2.2.2.2 rfl rfl rfl dMo_init_189 ?_
    exact st23 _ _ _ (hP.step (by decide) rfl rfl) (hQ.i hz)
  have st21 : ∀ (g : GM) (Ic : MI) (Jc : MJ), PtG m 21 sh r g → PtI m 21 I J Ic Jc → V x g 21 44552 Ic Jc 176 [some (.ref m)] [] := by
    intro g Ic Jc hP hQ
    have hz := hP.1
    have hm0 := hP.2.1
    refine v_aload_n C 0 dMo_init_176 rfl rfl ?_
    refine v_bipush C 6 dMo_init_177 (by decide) ?_
    refine v_newi C 6 (by decide) (by decide) (by decide) (ble rfl) (ble rfl) dMo_init_179 ?_
    refine v_putr C cfMo (k := 25) (n := 0) (by simp only [g_sh]; (repeat rw [if_neg (by omega)]); assumption) rfl w699 rfl M.2.2.2.2.2 rfl rfl rfl dMo_init_181 ?_
    exact st22 _ _ _ (hP.step (by decide) rfl rfl) (hQ.i hz)
  have st20 : ∀ (g : GM) (Ic : MI) (Jc : MJ), PtG m 20 sh r g → PtI m 20 I J Ic Jc → V x g 20 44546 Ic Jc 168 [some (.ref m)] [] := by
    intro g Ic Jc hP hQ
    have hz := hP.1
    have hm0 := hP.2.1
    refine v_aload_n C 0 dMo_init_168 rfl rfl ?_
    refine v_bipush C 6 dMo_init_169 (by decide) ?_
    refine v_newi C 6 (by decide) (by decide) (by decide) (ble rfl) (ble rfl) dMo_init_171 ?_
    refine v_putr C cfMo (k := 24) (n := 0) (by simp only [g_sh]; (repeat rw [if_neg (by omega)]); assumption) rfl w698 rfl M.2.2.2.2.2 rfl rfl rfl dMo_init_173 ?_
    exact st21 _ _ _ (hP.step (by decide) rfl rfl) (hQ.i hz)
  have st19 : ∀ (g : GM) (Ic : MI) (Jc : MJ), PtG m 19 sh r g → PtI m 19 I J Ic Jc → V x g 19 44540 Ic Jc 160 [some (.ref m)] [] := by
    intro g Ic Jc hP hQ
    have hz := hP.1
    have hm0 := hP.2.1
    refine v_aload_n C 0 dMo_init_160 rfl rfl ?_
    refine v_bipush C 6 dMo_init_161 (by decide) ?_
    refine v_newl C 6 (by decide) (by decide) (by decide) (ble rfl) (ble rfl) dMo_init_163 ?_
    refine v_putr C cfMo (k := 23) (n := 0) (by simp only [g_sh]; (repeat rw [if_neg (by omega)]); assumption) rfl w697 rfl M.2.2.2.2.2 rfl rfl rfl dMo_init_165 ?_
    exact st20 _ _ _ (hP.step (by decide) rfl rfl) (hQ.j hz (by decide))
  have st18 : ∀ (g : GM) (Ic : MI) (Jc : MJ), PtG m 18 sh r g → PtI m 18 I J Ic Jc → V x g 18 44534 Ic Jc 152 [some (.ref m)] [] := by
    intro g Ic Jc hP hQ
    have hz := hP.1
    have hm0 := hP.2.1
    refine v_aload_n C 0 dMo_init_152 rfl rfl ?_
    refine v_bipush C 6 dMo_init_153 (by decide) ?_
    refine v_newi C 6 (by decide) (by decide) (by decide) (ble rfl) (ble rfl) dMo_init_155 ?_
    refine v_putr C cfMo (k := 22) (n := 0) (by simp only [g_sh]; (repeat rw [if_neg (by omega)]); assumption) rfl w696 rfl M.2.2.2.2.2 rfl rfl rfl dMo_init_157 ?_
    exact st19 _ _ _ (hP.step (by decide) rfl rfl) (hQ.i hz)
  have st17 : ∀ (g : GM) (Ic : MI) (Jc : MJ), PtG m 17 sh r g → PtI m 17 I J Ic Jc → V x g 17 44528 Ic Jc 144 [some (.ref m)] [] := by
    intro g Ic Jc hP hQ
    have hz := hP.1
    have hm0 := hP.2.1
    refine v_aload_n C 0 dMo_init_144 rfl rfl ?_
    refine v_bipush C 6 dMo_init_145 (by decide) ?_
    refine v_newi C 6 (by decide) (by decide) (by decide) (ble rfl) (ble rfl) dMo_init_147 ?_
    refine v_putr C cfMo (k := 21) (n := 0) (by simp only [g_sh]; (repeat rw [if_neg (by omega)]); assumption) rfl w695 rfl M.2.2.2.2.2 rfl rfl rfl dMo_init_149 ?_
    exact st18 _ _ _ (hP.step (by decide) rfl rfl) (hQ.i hz)
  have st16 : ∀ (g : GM) (Ic : MI) (Jc : MJ), PtG m 16 sh r g → PtI m 16 I J Ic Jc → V x g 16 44522 Ic Jc 136 [some (.ref m)] [] := by
    intro g Ic Jc hP hQ
    have hz := hP.1
    have hm0 := hP.2.1
    refine v_aload_n C 0 dMo_init_136 rfl rfl ?_
    refine v_bipush C 6 dMo_init_137 (by decide) ?_
    refine v_newz C 6 (by decide) (by decide) (by decide) (ble rfl) (ble rfl) dMo_init_139 ?_
    refine v_putr C cfMo (k := 20) (n := 0) (by simp only [g_sh]; (repeat rw [if_neg (by omega)]); assumption) rfl w694 rfl M.2.2.2.2.2 rfl rfl rfl dMo_init_141 ?_
    exact st17 _ _ _ (hP.step (by decide) rfl rfl) (hQ.i hz)
  have st15 : ∀ (g : GM) (Ic : MI) (Jc : MJ), PtG m 15 sh r g → PtI m 15 I J Ic Jc → V x g 15 42521 Ic Jc 127 [some (.ref m)] [] := by
    intro g Ic Jc hP hQ
    have hz := hP.1
    have hm0 := hP.2.1
    refine v_aload_n C 0 dMo_init_127 rfl rfl ?_
    refine v_sipush C 2001 dMo_init_128 (by decide) ?_
    refine v_newl C 2001 (by decide) (by decide) (by decide) (ble rfl) (ble rfl) dMo_init_131 ?_
    refine v_putr C cfMo (k := 19) (n := 0) (by simp only [g_sh]; (repeat rw [if_neg (by omega)]); assumption) rfl w693 rfl M.2.2.2.2.2 rfl rfl rfl dMo_init_133 ?_
    exact st16 _ _ _ (hP.step (by decide) rfl rfl) (hQ.j hz (by decide))
  have st14 : ∀ (g : GM) (Ic : MI) (Jc : MJ), PtG m 14 sh r g → PtI m 14 I J Ic Jc → V x g 14 28514 Ic Jc 118 [some (.ref m)] [] := by
    intro g Ic Jc hP hQ
    have hz := hP.1
    have hm0 := hP.2.1
    refine v_aload_n C 0 dMo_init_118 rfl rfl ?_
    refine v_sipush C 14007 dMo_init_119 (by decide) ?_
    refine v_newz C 14007 (by decide) (by decide) (by decide) (ble rfl) (ble rfl) dMo_init_122 ?_
    refine v_putr C cfMo (k := 18) (n := 0) (by simp only [g_sh]; (repeat rw [if_neg (by omega)]); assumption) rfl w692 rfl M.2.2.2.2.2 rfl rfl rfl dMo_init_124 ?_
    exact st15 _ _ _ (hP.step (by decide) rfl rfl) (hQ.i hz)
  have st13 : ∀ (g : GM) (Ic : MI) (Jc : MJ), PtG m 13 sh r g → PtI m 13 I J Ic Jc → V x g 13 14507 Ic Jc 109 [some (.ref m)] [] := by
    intro g Ic Jc hP hQ
    have hz := hP.1
    have hm0 := hP.2.1
    refine v_aload_n C 0 dMo_init_109 rfl rfl ?_
    refine v_sipush C 14007 dMo_init_110 (by decide) ?_
    refine v_newl C 14007 (by decide) (by decide) (by decide) (ble rfl) (ble rfl) dMo_init_113 ?_
    refine v_putr C cfMo (k := 17) (n := 0) (by simp only [g_sh]; (repeat rw [if_neg (by omega)]); assumption) rfl w691 rfl M.2.2.2.2.2 rfl rfl rfl dMo_init_115 ?_
    exact st14 _ _ _ (hP.step (by decide) rfl rfl) (hQ.j hz (by decide))
  have st12 : ∀ (g : GM) (Ic : MI) (Jc : MJ), PtG m 12 sh r g → PtI m 12 I J Ic Jc → V x g 12 500 Ic Jc 100 [some (.ref m)] [] := by
    intro g Ic Jc hP hQ
    have hz := hP.1
    have hm0 := hP.2.1
    refine v_aload_n C 0 dMo_init_100 rfl rfl ?_
    refine v_sipush C 14007 dMo_init_101 (by decide) ?_
    refine v_newi C 14007 (by decide) (by decide) (by decide) (ble rfl) (ble rfl) dMo_init_104 ?_
    refine v_putr C cfMo (k := 16) (n := 0) (by simp only [g_sh]; (repeat rw [if_neg (by omega)]); assumption) rfl w690 rfl M.2.2.2.2.2 rfl rfl rfl dMo_init_106 ?_
    exact st13 _ _ _ (hP.step (by decide) rfl rfl) (hQ.i hz)
  have st11 : ∀ (g : GM) (Ic : MI) (Jc : MJ), PtG m 11 sh r g → PtI m 11 I J Ic Jc → V x g 11 492 Ic Jc 92 [some (.ref m)] [] := by
    intro g Ic Jc hP hQ
    have hz := hP.1
    have hm0 := hP.2.1
    refine v_aload_n C 0 dMo_init_92 rfl rfl ?_
    refine v_bipush C 8 dMo_init_93 (by decide) ?_
    refine v_newi C 8 (by decide) (by decide) (by decide) (ble rfl) (ble rfl) dMo_init_95 ?_
    refine v_putr C cfMo (k := 14) (n := 0) (by simp only [g_sh]; (repeat rw [if_neg (by omega)]); assumption) rfl w688 rfl M.2.2.2.2.2 rfl rfl rfl dMo_init_97 ?_
    exact st12 _ _ _ (hP.step (by decide) rfl rfl) (hQ.i hz)
  have st10 : ∀ (g : GM) (Ic : MI) (Jc : MJ), PtG m 10 sh r g → PtI m 10 I J Ic Jc → V x g 10 444 Ic Jc 84 [some (.ref m)] [] := by
    intro g Ic Jc hP hQ
    have hz := hP.1
    have hm0 := hP.2.1
    refine v_aload_n C 0 dMo_init_84 rfl rfl ?_
    refine v_bipush C 48 dMo_init_85 (by decide) ?_
    refine v_newi C 48 (by decide) (by decide) (by decide) (ble rfl) (ble rfl) dMo_init_87 ?_
    refine v_putr C cfMo (k := 13) (n := 0) (by simp only [g_sh]; (repeat rw [if_neg (by omega)]); assumption) rfl w687 rfl M.2.2.2.2.2 rfl rfl rfl dMo_init_89 ?_
    exact st11 _ _ _ (hP.step (by decide) rfl rfl) (hQ.i hz)
  have st9 : ∀ (g : GM) (Ic : MI) (Jc : MJ), PtG m 9 sh r g → PtI m 9 I J Ic Jc → V x g 9 396 Ic Jc 76 [some (.ref m)] [] := by
    intro g Ic Jc hP hQ
    have hz := hP.1
    have hm0 := hP.2.1
    refine v_aload_n C 0 dMo_init_76 rfl rfl ?_
    refine v_bipush C 48 dMo_init_77 (by decide) ?_
    refine v_newi C 48 (by decide) (by decide) (by decide) (ble rfl) (ble rfl) dMo_init_79 ?_
    refine v_putr C cfMo (k := 12) (n := 0) (by simp only [g_sh]; (repeat rw [if_neg (by omega)]); assumption) rfl w686 rfl M.2.2.2.2.2 rfl rfl rfl dMo_init_81 ?_
    exact st10 _ _ _ (hP.step (by decide) rfl rfl) (hQ.i hz)
  have st8 : ∀ (g : GM) (Ic : MI) (Jc : MJ), PtG m 8 sh r g → PtI m 8 I J Ic Jc → V x g 8 348 Ic Jc 68 [some (.ref m)] [] := by
    intro g Ic Jc hP hQ
    have hz := hP.1
    have hm0 := hP.2.1
    refine v_aload_n C 0 dMo_init_68 rfl rfl ?_
    refine v_bipush C 48 dMo_init_69 (by decide) ?_
    refine v_newi C 48 (by decide) (by decide) (by decide) (ble rfl) (ble rfl) dMo_init_71 ?_
    refine v_putr C cfMo (k := 11) (n := 0) (by simp only [g_sh]; (repeat rw [if_neg (by omega)]); assumption) rfl w685 rfl M.2.2.2.2.2 rfl rfl rfl dMo_init_73 ?_
    exact st9 _ _ _ (hP.step (by decide) rfl rfl) (hQ.i hz)
  have st7 : ∀ (g : GM) (Ic : MI) (Jc : MJ), PtG m 7 sh r g → PtI m 7 I J Ic Jc → V x g 7 300 Ic Jc 60 [some (.ref m)] [] := by
    intro g Ic Jc hP hQ
    have hz := hP.1
    have hm0 := hP.2.1
    refine v_aload_n C 0 dMo_init_60 rfl rfl ?_
    refine v_bipush C 48 dMo_init_61 (by decide) ?_
    refine v_newi C 48 (by decide) (by decide) (by decide) (ble rfl) (ble rfl) dMo_init_63 ?_
    refine v_putr C cfMo (k := 10) (n := 0) (by simp only [g_sh]; (repeat rw [if_neg (by omega)]); assumption) rfl w684 rfl M.2.2.2.2.2 rfl rfl rfl dMo_init_65 ?_
    exact st8 _ _ _ (hP.step (by decide) rfl rfl) (hQ.i hz)
  have st6 : ∀ (g : GM) (Ic : MI) (Jc : MJ), PtG m 6 sh r g → PtI m 6 I J Ic Jc → V x g 6 252 Ic Jc 52 [some (.ref m)] [] := by
    intro g Ic Jc hP hQ
    have hz := hP.1
    have hm0 := hP.2.1
    refine v_aload_n C 0 dMo_init_52 rfl rfl ?_
    refine v_bipush C 48 dMo_init_53 (by decide) ?_
    refine v_newi C 48 (by decide) (by decide) (by decide) (ble rfl) (ble rfl) dMo_init_55 ?_
    refine v_putr C cfMo (k := 9) (n := 0) (by simp only [g_sh]; (repeat rw [if_neg (by omega)]); assumption) rfl w683 rfl M.2.2.2.2.2 rfl rfl rfl dMo_init_57 ?_
    exact st7 _ _ _ (hP.step (by decide) rfl rfl) (hQ.i hz)
  have st5 : ∀ (g : GM) (Ic : MI) (Jc : MJ), PtG m 5 sh r g → PtI m 5 I J Ic Jc → V x g 5 204 Ic Jc 44 [some (.ref m)] [] := by
    intro g Ic Jc hP hQ
    have hz := hP.1
    have hm0 := hP.2.1
    refine v_aload_n C 0 dMo_init_44 rfl rfl ?_
    refine v_bipush C 48 dMo_init_45 (by decide) ?_
    refine v_newi C 48 (by decide) (by decide) (by decide) (ble rfl) (ble rfl) dMo_init_47 ?_
    refine v_putr C cfMo (k := 8) (n := 0) (by simp only [g_sh]; (repeat rw [if_neg (by omega)]); assumption) rfl w682 rfl M.2.2.2.2.2 rfl rfl rfl dMo_init_49 ?_
    exact st6 _ _ _ (hP.step (by decide) rfl rfl) (hQ.i hz)
  have st4 : ∀ (g : GM) (Ic : MI) (Jc : MJ), PtG m 4 sh r g → PtI m 4 I J Ic Jc → V x g 4 156 Ic Jc 36 [some (.ref m)] [] := by
    intro g Ic Jc hP hQ
    have hz := hP.1
    have hm0 := hP.2.1
    refine v_aload_n C 0 dMo_init_36 rfl rfl ?_
    refine v_bipush C 48 dMo_init_37 (by decide) ?_
    refine v_newi C 48 (by decide) (by decide) (by decide) (ble rfl) (ble rfl) dMo_init_39 ?_
    refine v_putr C cfMo (k := 7) (n := 0) (by simp only [g_sh]; (repeat rw [if_neg (by omega)]); assumption) rfl w681 rfl M.2.2.2.2.2 rfl rfl rfl dMo_init_41 ?_
    exact st5 _ _ _ (hP.step (by decide) rfl rfl) (hQ.i hz)
  have st3 : ∀ (g : GM) (Ic : MI) (Jc : MJ), PtG m 3 sh r g → PtI m 3 I J Ic Jc → V x g 3 108 Ic Jc 28 [some (.ref m)] [] := by
    intro g Ic Jc hP hQ
    have hz := hP.1
    have hm0 := hP.2.1
    refine v_aload_n C 0 dMo_init_28 rfl rfl ?_
    refine v_bipush C 48 dMo_init_29 (by decide) ?_
    refine v_newi C 48 (by decide) (by decide) (by decide) (ble rfl) (ble rfl) dMo_init_31 ?_
    refine v_putr C cfMo (k := 6) (n := 0) (by simp only [g_sh]; (repeat rw [if_neg (by omega)]); assumption) rfl w680 rfl M.2.2.2.2.2 rfl rfl rfl dMo_init_33 ?_
    exact st4 _ _ _ (hP.step (by decide) rfl rfl) (hQ.i hz)
  have st2 : ∀ (g : GM) (Ic : MI) (Jc : MJ), PtG m 2 sh r g → PtI m 2 I J Ic Jc → V x g 2 12 Ic Jc 20 [some (.ref m)] [] := by
    intro g Ic Jc hP hQ
    have hz := hP.1
    have hm0 := hP.2.1
    refine v_aload_n C 0 dMo_init_20 rfl rfl ?_
    refine v_bipush C 96 dMo_init_21 (by decide) ?_
    refine v_newi C 96 (by decide) (by decide) (by decide) (ble rfl) (ble rfl) dMo_init_23 ?_
    refine v_putr C cfMo (k := 4) (n := 0) (by simp only [g_sh]; (repeat rw [if_neg (by omega)]); assumption) rfl w678 rfl M.2.2.2.2.2 rfl rfl rfl dMo_init_25 ?_
    exact st3 _ _ _ (hP.step (by decide) rfl rfl) (hQ.i hz)
  have st1 : ∀ (g : GM) (Ic : MI) (Jc : MJ), PtG m 1 sh r g → PtI m 1 I J Ic Jc → V x g 1 6 Ic Jc 12 [some (.ref m)] [] := by
    intro g Ic Jc hP hQ
    have hz := hP.1
    have hm0 := hP.2.1
    refine v_aload_n C 0 dMo_init_12 rfl rfl ?_
    refine v_bipush C 6 dMo_init_13 (by decide) ?_
    refine v_newi C 6 (by decide) (by decide) (by decide) (ble rfl) (ble rfl) dMo_init_15 ?_
    refine v_putr C cfMo (k := 3) (n := 0) (by simp only [g_sh]; (repeat rw [if_neg (by omega)]); assumption) rfl w677 rfl M.2.2.2.2.2 rfl rfl rfl dMo_init_17 ?_
    exact st2 _ _ _ (hP.step (by decide) rfl rfl) (hQ.i hz)
  have st0 : ∀ (g : GM) (Ic : MI) (Jc : MJ), PtG m 0 sh r g → PtI m 0 I J Ic Jc → V x g 0 0 Ic Jc 4 [some (.ref m)] [] := by
    intro g Ic Jc hP hQ
    have hz := hP.1
    have hm0 := hP.2.1
    refine v_aload_n C 0 dMo_init_4 rfl rfl ?_
    refine v_bipush C 6 dMo_init_5 (by decide) ?_
    refine v_newi C 6 (by decide) (by decide) (by decide) (ble rfl) (ble rfl) dMo_init_7 ?_
    refine v_putr C cfMo (k := 2) (n := 0) (by simp only [g_sh]; (repeat rw [if_neg (by omega)]); assumption) rfl w676 rfl M.2.2.2.2.2 rfl rfl rfl dMo_init_9 ?_
    exact st1 _ _ _ (hP.step (by decide) rfl rfl) (hQ.i hz)
  refine v_aload_n C 0 dMo_init_0 rfl rfl ?_
  refine v_objI C w665 (ble rfl) (ble rfl) dMo_init_1 ?_
  exact st0 _ _ _ ⟨rfl, m0, fun i hi => absurd hi (Nat.not_lt_zero i), fun i hi => absurd hi (Nat.not_lt_zero i), fun _ _ => ⟨rfl, rfl⟩⟩ ⟨rfl, fun h => absurd h (by decide), fun _ _ => rfl, fun _ _ => rfl⟩
