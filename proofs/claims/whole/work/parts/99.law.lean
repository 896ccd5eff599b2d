/-! THE LAW'S BODY -/
section LW
variable {x : KX} {cc : ByteArray} {own : String} {nL : Nat} {rm : Room} {g : GM} {cells slots : Nat} {I : MI} {J : MJ} {pc : Nat} {lv : List (Option Value)} {st : List Value}
theorem v_sldN (C : Cx x cc own nL rm) {b L q : Nat} {xs : Nat → Int32} {i : Int32} (hX : va_X b L xs (ks x) (ks x).heap) (hbl : b < (ks x).heap.size) (hbA : ¬ kA x b) (hi : i = nI q) (hq : q < L) (hL : L < 2 ^ 31) (d : decode cc pc = .ok (.iaload, 1)) (k : V x g cells slots I J (pc + 1) lv (.int (xs q) :: st)) : V x g cells slots I J pc lv (.int i :: .ref b :: st) := fun H locs ls a1 a2 a3 a4 a5 => by
  subst hi
  have hcl : (nI q).toNatClampNeg = q := nI_clamp (by omega)
  refine va_sld C.1 C.2.1 hX hbl hbA a4 (vp_in_nI hq hL) d ?_
  rw [hcl]
  exact k H locs ls a1 a2 a3 a4 a5
theorem v_slen (C : Cx x cc own nL rm) {b L : Nat} {xs : Nat → Int32} (hX : va_X b L xs (ks x) (ks x).heap) (hbl : b < (ks x).heap.size) (hbA : ¬ kA x b) (d : decode cc pc = .ok (.arraylength, 1)) (k : V x g cells slots I J (pc + 1) lv (.int (nI L) :: st)) : V x g cells slots I J pc lv (.ref b :: st) := fun H locs ls a1 a2 a3 a4 a5 => va_slen C.1 C.2.1 hX hbl hbA a4 d (k H locs ls a1 a2 a3 a4 a5)
end LW
def LB (x : KX) (b L : Nat) (xs : Nat → Int32) : Prop := va_X b L xs (ks x) (ks x).heap ∧ b < (ks x).heap.size ∧ ¬ kA x b ∧ (kl x).stackTraces = false ∧ Zt (ks x) ∧ Zh (kA x) (ks x) (ks x).heap
theorem JX.at {s0 len : Nat} {scr : Nat → Int32} {g : GM} {I : MI} {J : MJ} {a it : Nat} (h : JX s0 len scr g I J a it) : g.1 a = (5, 0) ∧ g.1 (a + 18) = (6, 0) ∧ g.1 (a + 45) = (11, 1) := by
  obtain ⟨-, -, -, no, np, ev, ns, ow, pl, ca, ba, L, cnt, sb, h, -⟩ := h
  exact ⟨h.1.1.1, h.1.2.1.1, h.1.2.2.1⟩
set_option maxHeartbeats 2000000 in
theorem la_object {x : KX} {g : GM} {cells slots : Nat} {I : MI} {J : MJ} {b L a it len : Nat} {xs scr : Nat → Int32} (C : Cx x bLa_law RLa 8 room_1) (H : LB x b L xs) (hJ : JX b len scr g I J a it) (hq : 6 * it + 6 ≤ L) (hL : L ≤ 3072) (hc : cells + 30 ≤ 247816) (hs : slots + 11250 ≤ 8352658) (next : ∀ (g3 : GM) (I3 : MI) (J3 : MJ) (l5 l6 l7 : Option Value), JX b len scr g3 I3 J3 a (it + 1) → V x g3 (cells + 30) (slots + 11250) I3 J3 894 [some (.ref b), some (.ref a), some (.ref (a + 18)), some (.ref (a + 45)), some (.int (nI (6 * it))), l5, l6, l7] []) : V x g cells slots I J 120 [some (.ref b), some (.ref a), some (.ref (a + 18)), some (.ref (a + 45)), some (.int (nI (6 * it))), none, none, none] [] := by
  obtain ⟨P1, w1, w2⟩ := s_object hJ (by omega) (xs (6 * it + 1))
  refine v_aload_n C 1 dLa_law_120 rfl rfl ?_
  refine v_aload_n C 0 dLa_law_121 rfl rfl ?_
  refine v_iload C dLa_law_122 rfl ?_
  refine v_iconst C 1 dLa_law_124 (by decide) ?_
  refine v_iadd C dLa_law_125 ?_
  refine v_sldN C H.1 H.2.1 H.2.2.1 (q := 6 * it + 1) (nI_add _ 1) (by omega) (by omega) dLa_law_126 ?_
  refine v_aload_n C 3 dLa_law_127 rfl rfl ?_
  refine v_callW (n := 3) C H.2.2.2.1 H.2.2.2.2.1 H.2.2.2.2.2 (w1 (kl x) (kD x)) w331 w0 (by decide) (by decide +kernel) w330 w329 rfl rfl (ble rfl) (ble rfl) (ble rfl) (by show cells + 30 ≤ 247816; omega) (by show slots + 11250 ≤ 8352658; omega) dLa_law_128 ?_
  intro v g2 I2 J2 hP
  obtain ⟨z, rfl, -, -, m0, -, P2, c1, c2⟩ := w2 v g2 I2 J2 hP
  refine v_istore C dLa_law_131 (ble rfl) rfl ?_
  refine v_aload_n C 2 dLa_law_133 rfl rfl ?_
  refine v_aload_n C 0 dLa_law_134 rfl rfl ?_
  refine v_iload C dLa_law_135 rfl ?_
  refine v_iconst C 1 dLa_law_137 (by decide) ?_
  refine v_iadd C dLa_law_138 ?_
  refine v_sldN C H.1 H.2.1 H.2.2.1 (q := 6 * it + 1) (nI_add _ 1) (by omega) (by omega) dLa_law_139 ?_
  refine v_callV C (c1 (kl x) (kD x)) mwMo_object cfMo m0 w785 w786 w784 rfl rfl (ble rfl) (ble rfl) (ble rfl) (by show cells + 30 + 0 ≤ 247816; omega) (by show slots + 11250 + 0 ≤ 8352658; omega) dLa_law_140 ?_
  intro v3 g3 I3 J3 hP3
  obtain ⟨b', rfl, e0, ez, hJ3⟩ := c2 v3 g3 I3 J3 hP3
  refine v_istore C dLa_law_143 (ble rfl) rfl ?_
  refine v_aload_n C 2 dLa_law_145 rfl rfl ?_
  refine v_cVi C (c_Mo_thrown (kl x) (kD x) g3 I3 J3 hJ3.at.2.1) mwMo_thrown cfMo hJ3.at.2.1 w781 w782 w780 rfl rfl (ble rfl) (ble rfl) (ble rfl) (by show cells + 30 + 0 + 0 ≤ 247816; omega) (by show slots + 11250 + 0 + 0 ≤ 8352658; omega) dLa_law_146 ?_
  refine v_iload C dLa_law_149 rfl ?_
  refine v_icmp_eq C 156 dLa_law_151 (by decide) (fun _ => ?_) (fun h => absurd e0 h)
  refine v_iload C dLa_law_156 rfl ?_
  by_cases hz : z = 0
  · refine v_if_ne C 173 dLa_law_158 (by decide) (fun h => absurd hz h) (fun _ => ?_)
    refine v_aload_n C 3 dLa_law_161 rfl rfl ?_
    refine v_iconst C 0 dLa_law_162 (by decide) ?_
    refine v_laldN C (q := 0) hJ3.at.2.2 rfl (by decide) (by decide) (ez hz) dLa_law_163 ?_
    refine v_iload C dLa_law_164 rfl ?_
    refine v_i2l C dLa_law_166 ?_
    refine v_lcmp C dLa_law_167 ?_
    refine v_if_eq C 173 dLa_law_168 (by decide) (fun _ => ?_) (fun h => absurd (lcmpE.mpr rfl) h)
    refine v_goto C 894 dLa_law_173 (by decide) ?_
    exact V.widen (next g3 I3 J3 _ _ _ hJ3) (by show cells + 30 + 0 + 0 ≤ cells + 30; omega) (by show slots + 11250 + 0 + 0 ≤ slots + 11250; omega)
  · refine v_if_ne C 173 dLa_law_158 (by decide) (fun _ => ?_) (fun h => absurd h hz)
    refine v_goto C 894 dLa_law_173 (by decide) ?_
    exact V.widen (next g3 I3 J3 _ _ _ hJ3) (by show cells + 30 + 0 + 0 ≤ cells + 30; omega) (by show slots + 11250 + 0 + 0 ≤ slots + 11250; omega)
set_option maxHeartbeats 2000000 in
theorem la_call {x : KX} {g : GM} {cells slots : Nat} {I : MI} {J : MJ} {b L a it len : Nat} {xs scr : Nat → Int32} (C : Cx x bLa_law RLa 8 room_1) (H : LB x b L xs) (hJ : JX b len scr g I J a it) (hq : 6 * it + 6 ≤ L) (hL : L ≤ 3072) (hc : cells + 30 ≤ 247816) (hs : slots + 11250 ≤ 8352658) (next : ∀ (g3 : GM) (I3 : MI) (J3 : MJ) (l5 l6 l7 : Option Value), JX b len scr g3 I3 J3 a (it + 1) → V x g3 (cells + 30) (slots + 11250) I3 J3 894 [some (.ref b), some (.ref a), some (.ref (a + 18)), some (.ref (a + 45)), some (.int (nI (6 * it))), l5, l6, l7] []) : V x g cells slots I J 176 [some (.ref b), some (.ref a), some (.ref (a + 18)), some (.ref (a + 45)), some (.int (nI (6 * it))), none, none, none] [] := by
  obtain ⟨P1, w1, w2⟩ := s_call hJ (by omega) (xs (6 * it + 1)) (xs (6 * it + 2)) (xs (6 * it + 3)) (xs (6 * it + 4)) (xs (6 * it + 5))
  refine v_aload_n C 1 dLa_law_176 rfl rfl ?_
  refine v_aload_n C 0 dLa_law_177 rfl rfl ?_
  refine v_iload C dLa_law_178 rfl ?_
  refine v_iconst C 1 dLa_law_180 (by decide) ?_
  refine v_iadd C dLa_law_181 ?_
  refine v_sldN C H.1 H.2.1 H.2.2.1 (q := 6 * it + 1) (nI_add _ 1) (by omega) (by omega) dLa_law_182 ?_
  refine v_aload_n C 0 dLa_law_183 rfl rfl ?_
  refine v_iload C dLa_law_184 rfl ?_
  refine v_iconst C 2 dLa_law_186 (by decide) ?_
  refine v_iadd C dLa_law_187 ?_
  refine v_sldN C H.1 H.2.1 H.2.2.1 (q := 6 * it + 2) (nI_add _ 2) (by omega) (by omega) dLa_law_188 ?_
  refine v_aload_n C 0 dLa_law_189 rfl rfl ?_
  refine v_iload C dLa_law_190 rfl ?_
  refine v_iconst C 3 dLa_law_192 (by decide) ?_
  refine v_iadd C dLa_law_193 ?_
  refine v_sldN C H.1 H.2.1 H.2.2.1 (q := 6 * it + 3) (nI_add _ 3) (by omega) (by omega) dLa_law_194 ?_
  refine v_aload_n C 0 dLa_law_195 rfl rfl ?_
  refine v_iload C dLa_law_196 rfl ?_
  refine v_iconst C 4 dLa_law_198 (by decide) ?_
  refine v_iadd C dLa_law_199 ?_
  refine v_sldN C H.1 H.2.1 H.2.2.1 (q := 6 * it + 4) (nI_add _ 4) (by omega) (by omega) dLa_law_200 ?_
  refine v_aload_n C 0 dLa_law_201 rfl rfl ?_
  refine v_iload C dLa_law_202 rfl ?_
  refine v_iconst C 5 dLa_law_204 (by decide) ?_
  refine v_iadd C dLa_law_205 ?_
  refine v_sldN C H.1 H.2.1 H.2.2.1 (q := 6 * it + 5) (nI_add _ 5) (by omega) (by omega) dLa_law_206 ?_
  refine v_aload_n C 3 dLa_law_207 rfl rfl ?_
  refine v_callW (n := 7) C H.2.2.2.1 H.2.2.2.2.1 H.2.2.2.2.2 (w1 (kl x) (kD x)) w459 w0 (by decide) (by decide +kernel) w458 w457 rfl rfl (ble rfl) (ble rfl) (ble rfl) (by show cells + 30 ≤ 247816; omega) (by show slots + 11250 ≤ 8352658; omega) dLa_law_208 ?_
  intro v g2 I2 J2 hP
  obtain ⟨z, rfl, -, -, m0, -, P2, c1, c2⟩ := w2 v g2 I2 J2 hP
  refine v_istore C dLa_law_211 (ble rfl) rfl ?_
  refine v_aload_n C 2 dLa_law_213 rfl rfl ?_
  refine v_aload_n C 0 dLa_law_214 rfl rfl ?_
  refine v_iload C dLa_law_215 rfl ?_
  refine v_iconst C 1 dLa_law_217 (by decide) ?_
  refine v_iadd C dLa_law_218 ?_
  refine v_sldN C H.1 H.2.1 H.2.2.1 (q := 6 * it + 1) (nI_add _ 1) (by omega) (by omega) dLa_law_219 ?_
  refine v_aload_n C 0 dLa_law_220 rfl rfl ?_
  refine v_iload C dLa_law_221 rfl ?_
  refine v_iconst C 2 dLa_law_223 (by decide) ?_
  refine v_iadd C dLa_law_224 ?_
  refine v_sldN C H.1 H.2.1 H.2.2.1 (q := 6 * it + 2) (nI_add _ 2) (by omega) (by omega) dLa_law_225 ?_
  refine v_aload_n C 0 dLa_law_226 rfl rfl ?_
  refine v_iload C dLa_law_227 rfl ?_
  refine v_iconst C 3 dLa_law_229 (by decide) ?_
  refine v_iadd C dLa_law_230 ?_
  refine v_sldN C H.1 H.2.1 H.2.2.1 (q := 6 * it + 3) (nI_add _ 3) (by omega) (by omega) dLa_law_231 ?_
  refine v_aload_n C 0 dLa_law_232 rfl rfl ?_
  refine v_iload C dLa_law_233 rfl ?_
  refine v_iconst C 4 dLa_law_235 (by decide) ?_
  refine v_iadd C dLa_law_236 ?_
  refine v_sldN C H.1 H.2.1 H.2.2.1 (q := 6 * it + 4) (nI_add _ 4) (by omega) (by omega) dLa_law_237 ?_
  refine v_aload_n C 0 dLa_law_238 rfl rfl ?_
  refine v_iload C dLa_law_239 rfl ?_
  refine v_iconst C 5 dLa_law_241 (by decide) ?_
  refine v_iadd C dLa_law_242 ?_
  refine v_sldN C H.1 H.2.1 H.2.2.1 (q := 6 * it + 5) (nI_add _ 5) (by omega) (by omega) dLa_law_243 ?_
  refine v_callV C (c1 (kl x) (kD x)) mwMo_call cfMo m0 w789 w790 w788 rfl rfl (ble rfl) (ble rfl) (ble rfl) (by show cells + 30 + 0 ≤ 247816; omega) (by show slots + 11250 + 0 ≤ 8352658; omega) dLa_law_244 ?_
  intro v3 g3 I3 J3 hP3
  obtain ⟨b', rfl, e0, ez, hJ3⟩ := c2 v3 g3 I3 J3 hP3
  refine v_istore C dLa_law_247 (ble rfl) rfl ?_
  refine v_aload_n C 2 dLa_law_249 rfl rfl ?_
  refine v_cVi C (c_Mo_thrown (kl x) (kD x) g3 I3 J3 hJ3.at.2.1) mwMo_thrown cfMo hJ3.at.2.1 w781 w782 w780 rfl rfl (ble rfl) (ble rfl) (ble rfl) (by show cells + 30 + 0 + 0 ≤ 247816; omega) (by show slots + 11250 + 0 + 0 ≤ 8352658; omega) dLa_law_250 ?_
  refine v_iload C dLa_law_253 rfl ?_
  refine v_icmp_eq C 260 dLa_law_255 (by decide) (fun _ => ?_) (fun h => absurd e0 h)
  refine v_iload C dLa_law_260 rfl ?_
  by_cases hz : z = 0
  · refine v_if_ne C 277 dLa_law_262 (by decide) (fun h => absurd hz h) (fun _ => ?_)
    refine v_aload_n C 3 dLa_law_265 rfl rfl ?_
    refine v_iconst C 0 dLa_law_266 (by decide) ?_
    refine v_laldN C (q := 0) hJ3.at.2.2 rfl (by decide) (by decide) (ez hz) dLa_law_267 ?_
    refine v_iload C dLa_law_268 rfl ?_
    refine v_i2l C dLa_law_270 ?_
    refine v_lcmp C dLa_law_271 ?_
    refine v_if_eq C 277 dLa_law_272 (by decide) (fun _ => ?_) (fun h => absurd (lcmpE.mpr rfl) h)
    refine v_goto C 894 dLa_law_277 (by decide) ?_
    exact V.widen (next g3 I3 J3 _ _ _ hJ3) (by show cells + 30 + 0 + 0 ≤ cells + 30; omega) (by show slots + 11250 + 0 + 0 ≤ slots + 11250; omega)
  · refine v_if_ne C 277 dLa_law_262 (by decide) (fun _ => ?_) (fun h => absurd h hz)
    refine v_goto C 894 dLa_law_277 (by decide) ?_
    exact V.widen (next g3 I3 J3 _ _ _ hJ3) (by show cells + 30 + 0 + 0 ≤ cells + 30; omega) (by show slots + 11250 + 0 + 0 ≤ slots + 11250; omega)
set_option maxHeartbeats 2000000 in
theorem la_back {x : KX} {g : GM} {cells slots : Nat} {I : MI} {J : MJ} {b L a it len : Nat} {xs scr : Nat → Int32} (C : Cx x bLa_law RLa 8 room_1) (H : LB x b L xs) (hJ : JX b len scr g I J a it) (hq : 6 * it + 6 ≤ L) (hL : L ≤ 3072) (hc : cells + 30 ≤ 247816) (hs : slots + 11250 ≤ 8352658) (next : ∀ (g3 : GM) (I3 : MI) (J3 : MJ) (l5 l6 l7 : Option Value), JX b len scr g3 I3 J3 a (it + 1) → V x g3 (cells + 30) (slots + 11250) I3 J3 894 [some (.ref b), some (.ref a), some (.ref (a + 18)), some (.ref (a + 45)), some (.int (nI (6 * it))), l5, l6, l7] []) : V x g cells slots I J 280 [some (.ref b), some (.ref a), some (.ref (a + 18)), some (.ref (a + 45)), some (.int (nI (6 * it))), none, none, none] [] := by
  obtain ⟨P1, w1, w2⟩ := s_back hJ (by omega) (xs (6 * it + 1)) (xs (6 * it + 2))
  refine v_aload_n C 1 dLa_law_280 rfl rfl ?_
  refine v_aload_n C 0 dLa_law_281 rfl rfl ?_
  refine v_iload C dLa_law_282 rfl ?_
  refine v_iconst C 1 dLa_law_284 (by decide) ?_
  refine v_iadd C dLa_law_285 ?_
  refine v_sldN C H.1 H.2.1 H.2.2.1 (q := 6 * it + 1) (nI_add _ 1) (by omega) (by omega) dLa_law_286 ?_
  refine v_aload_n C 0 dLa_law_287 rfl rfl ?_
  refine v_iload C dLa_law_288 rfl ?_
  refine v_iconst C 2 dLa_law_290 (by decide) ?_
  refine v_iadd C dLa_law_291 ?_
  refine v_sldN C H.1 H.2.1 H.2.2.1 (q := 6 * it + 2) (nI_add _ 2) (by omega) (by omega) dLa_law_292 ?_
  refine v_callW (n := 3) C H.2.2.2.1 H.2.2.2.2.1 H.2.2.2.2.2 (w1 (kl x) (kD x)) w509 w0 (by decide) (by decide +kernel) w508 w507 rfl rfl (ble rfl) (ble rfl) (ble rfl) (by show cells + 30 ≤ 247816; omega) (by show slots + 11250 ≤ 8352658; omega) dLa_law_293 ?_
  intro v g2 I2 J2 hP
  obtain ⟨z, rfl, -, -, m0, P2, c1, c2⟩ := w2 v g2 I2 J2 hP
  refine v_istore C dLa_law_296 (ble rfl) rfl ?_
  refine v_aload_n C 2 dLa_law_298 rfl rfl ?_
  refine v_aload_n C 0 dLa_law_299 rfl rfl ?_
  refine v_iload C dLa_law_300 rfl ?_
  refine v_iconst C 1 dLa_law_302 (by decide) ?_
  refine v_iadd C dLa_law_303 ?_
  refine v_sldN C H.1 H.2.1 H.2.2.1 (q := 6 * it + 1) (nI_add _ 1) (by omega) (by omega) dLa_law_304 ?_
  refine v_aload_n C 0 dLa_law_305 rfl rfl ?_
  refine v_iload C dLa_law_306 rfl ?_
  refine v_iconst C 2 dLa_law_308 (by decide) ?_
  refine v_iadd C dLa_law_309 ?_
  refine v_sldN C H.1 H.2.1 H.2.2.1 (q := 6 * it + 2) (nI_add _ 2) (by omega) (by omega) dLa_law_310 ?_
  refine v_callV C (c1 (kl x) (kD x)) mwMo_back cfMo m0 w797 w798 w796 rfl rfl (ble rfl) (ble rfl) (ble rfl) (by show cells + 30 + 0 ≤ 247816; omega) (by show slots + 11250 + 0 ≤ 8352658; omega) dLa_law_311 ?_
  intro v3 g3 I3 J3 hP3
  obtain ⟨rfl, e0, hJ3⟩ := c2 v3 g3 I3 J3 hP3
  refine v_aload_n C 2 dLa_law_314 rfl rfl ?_
  refine v_cVi C (c_Mo_thrown (kl x) (kD x) g3 I3 J3 hJ3.at.2.1) mwMo_thrown cfMo hJ3.at.2.1 w781 w782 w780 rfl rfl (ble rfl) (ble rfl) (ble rfl) (by show cells + 30 + 0 + 0 ≤ 247816; omega) (by show slots + 11250 + 0 + 0 ≤ 8352658; omega) dLa_law_315 ?_
  refine v_iload C dLa_law_318 rfl ?_
  refine v_icmp_eq C 325 dLa_law_320 (by decide) (fun _ => ?_) (fun h => absurd e0 h)
  refine v_goto C 894 dLa_law_325 (by decide) ?_
  exact V.widen (next g3 I3 J3 _ _ _ hJ3) (by show cells + 30 + 0 + 0 ≤ cells + 30; omega) (by show slots + 11250 + 0 + 0 ≤ slots + 11250; omega)
set_option maxHeartbeats 2000000 in
theorem la_lose {x : KX} {g : GM} {cells slots : Nat} {I : MI} {J : MJ} {b L a it len : Nat} {xs scr : Nat → Int32} (C : Cx x bLa_law RLa 8 room_1) (H : LB x b L xs) (hJ : JX b len scr g I J a it) (hq : 6 * it + 6 ≤ L) (hL : L ≤ 3072) (hc : cells + 30 ≤ 247816) (hs : slots + 11250 ≤ 8352658) (next : ∀ (g3 : GM) (I3 : MI) (J3 : MJ) (l5 l6 l7 : Option Value), JX b len scr g3 I3 J3 a (it + 1) → V x g3 (cells + 30) (slots + 11250) I3 J3 894 [some (.ref b), some (.ref a), some (.ref (a + 18)), some (.ref (a + 45)), some (.int (nI (6 * it))), l5, l6, l7] []) : V x g cells slots I J 328 [some (.ref b), some (.ref a), some (.ref (a + 18)), some (.ref (a + 45)), some (.int (nI (6 * it))), none, none, none] [] := by
  obtain ⟨P1, w1, w2⟩ := s_lose hJ (by omega) (xs (6 * it + 1))
  refine v_aload_n C 1 dLa_law_328 rfl rfl ?_
  refine v_aload_n C 0 dLa_law_329 rfl rfl ?_
  refine v_iload C dLa_law_330 rfl ?_
  refine v_iconst C 1 dLa_law_332 (by decide) ?_
  refine v_iadd C dLa_law_333 ?_
  refine v_sldN C H.1 H.2.1 H.2.2.1 (q := 6 * it + 1) (nI_add _ 1) (by omega) (by omega) dLa_law_334 ?_
  refine v_callW (n := 2) C H.2.2.2.1 H.2.2.2.2.1 H.2.2.2.2.2 (w1 (kl x) (kD x)) w525 w0 (by decide) (by decide +kernel) w524 w523 rfl rfl (ble rfl) (ble rfl) (ble rfl) (by show cells + 30 ≤ 247816; omega) (by show slots + 11250 ≤ 8352658; omega) dLa_law_335 ?_
  intro v g2 I2 J2 hP
  obtain ⟨z, rfl, -, -, m0, P2, c1, c2⟩ := w2 v g2 I2 J2 hP
  refine v_istore C dLa_law_338 (ble rfl) rfl ?_
  refine v_aload_n C 2 dLa_law_340 rfl rfl ?_
  refine v_aload_n C 0 dLa_law_341 rfl rfl ?_
  refine v_iload C dLa_law_342 rfl ?_
  refine v_iconst C 1 dLa_law_344 (by decide) ?_
  refine v_iadd C dLa_law_345 ?_
  refine v_sldN C H.1 H.2.1 H.2.2.1 (q := 6 * it + 1) (nI_add _ 1) (by omega) (by omega) dLa_law_346 ?_
  refine v_callV C (c1 (kl x) (kD x)) mwMo_lose cfMo m0 w805 w806 w804 rfl rfl (ble rfl) (ble rfl) (ble rfl) (by show cells + 30 + 0 ≤ 247816; omega) (by show slots + 11250 + 0 ≤ 8352658; omega) dLa_law_347 ?_
  intro v3 g3 I3 J3 hP3
  obtain ⟨rfl, e0, hJ3⟩ := c2 v3 g3 I3 J3 hP3
  refine v_aload_n C 2 dLa_law_350 rfl rfl ?_
  refine v_cVi C (c_Mo_thrown (kl x) (kD x) g3 I3 J3 hJ3.at.2.1) mwMo_thrown cfMo hJ3.at.2.1 w781 w782 w780 rfl rfl (ble rfl) (ble rfl) (ble rfl) (by show cells + 30 + 0 + 0 ≤ 247816; omega) (by show slots + 11250 + 0 + 0 ≤ 8352658; omega) dLa_law_351 ?_
  refine v_iload C dLa_law_354 rfl ?_
  refine v_icmp_eq C 361 dLa_law_356 (by decide) (fun _ => ?_) (fun h => absurd e0 h)
  refine v_goto C 894 dLa_law_361 (by decide) ?_
  exact V.widen (next g3 I3 J3 _ _ _ hJ3) (by show cells + 30 + 0 + 0 ≤ cells + 30; omega) (by show slots + 11250 + 0 + 0 ≤ slots + 11250; omega)
set_option maxHeartbeats 2000000 in
theorem la_clear {x : KX} {g : GM} {cells slots : Nat} {I : MI} {J : MJ} {b L a it len : Nat} {xs scr : Nat → Int32} (C : Cx x bLa_law RLa 8 room_1) (H : LB x b L xs) (hJ : JX b len scr g I J a it) (hq : 6 * it + 6 ≤ L) (hL : L ≤ 3072) (hc : cells + 30 ≤ 247816) (hs : slots + 11250 ≤ 8352658) (next : ∀ (g3 : GM) (I3 : MI) (J3 : MJ) (l5 l6 l7 : Option Value), JX b len scr g3 I3 J3 a (it + 1) → V x g3 (cells + 30) (slots + 11250) I3 J3 894 [some (.ref b), some (.ref a), some (.ref (a + 18)), some (.ref (a + 45)), some (.int (nI (6 * it))), l5, l6, l7] []) : V x g cells slots I J 364 [some (.ref b), some (.ref a), some (.ref (a + 18)), some (.ref (a + 45)), some (.int (nI (6 * it))), none, none, none] [] := by
  obtain ⟨P1, w1, w2⟩ := s_clear hJ
  refine v_aload_n C 1 dLa_law_364 rfl rfl ?_
  refine v_callV C (w1 (kl x) (kD x)) mwLH_clear cfLH hJ.at.1 w158 w159 w157 rfl rfl (ble rfl) (ble rfl) (ble rfl) (by show cells + 0 ≤ 247816; omega) (by show slots + 0 ≤ 8352658; omega) dLa_law_365 ?_
  intro v g2 I2 J2 hP
  obtain ⟨z, rfl, m0, P2, c1, c2⟩ := w2 v g2 I2 J2 hP
  refine v_aload_n C 2 dLa_law_368 rfl rfl ?_
  refine v_callV C (c1 (kl x) (kD x)) mwMo_clear cfMo m0 w809 w810 w808 rfl rfl (ble rfl) (ble rfl) (ble rfl) (by show cells + 0 + 0 ≤ 247816; omega) (by show slots + 0 + 0 ≤ 8352658; omega) dLa_law_369 ?_
  intro v3 g3 I3 J3 hP3
  obtain ⟨rfl, hJ3⟩ := c2 v3 g3 I3 J3 hP3
  refine v_icmp_eq C 894 dLa_law_372 (by decide) (fun _ => ?_) (fun h => absurd rfl h)
  exact V.widen (next g3 I3 J3 _ _ _ hJ3) (by show cells + 0 + 0 ≤ cells + 30; omega) (by show slots + 0 + 0 ≤ slots + 11250; omega)
set_option maxHeartbeats 2000000 in
theorem la_events {x : KX} {g : GM} {cells slots : Nat} {I : MI} {J : MJ} {b L a it len : Nat} {xs scr : Nat → Int32} (C : Cx x bLa_law RLa 8 room_1) (H : LB x b L xs) (hJ : JX b len scr g I J a it) (hq : 6 * it + 6 ≤ L) (hL : L ≤ 3072) (hc : cells + 30 ≤ 247816) (hs : slots + 11250 ≤ 8352658) (next : ∀ (g3 : GM) (I3 : MI) (J3 : MJ) (l5 l6 l7 : Option Value), JX b len scr g3 I3 J3 a (it + 1) → V x g3 (cells + 30) (slots + 11250) I3 J3 894 [some (.ref b), some (.ref a), some (.ref (a + 18)), some (.ref (a + 45)), some (.int (nI (6 * it))), l5, l6, l7] []) : V x g cells slots I J 377 [some (.ref b), some (.ref a), some (.ref (a + 18)), some (.ref (a + 45)), some (.int (nI (6 * it))), none, none, none] [] := by
  obtain ⟨P1, w1, w2⟩ := s_events hJ
  refine v_aload_n C 1 dLa_law_377 rfl rfl ?_
  refine v_callV C (w1 (kl x) (kD x)) mwLH_events cfLH hJ.at.1 w162 w163 w161 rfl rfl (ble rfl) (ble rfl) (ble rfl) (by show cells + 0 ≤ 247816; omega) (by show slots + 0 ≤ 8352658; omega) dLa_law_378 ?_
  intro v g2 I2 J2 hP
  obtain ⟨z, rfl, m0, P2, c1, c2⟩ := w2 v g2 I2 J2 hP
  refine v_aload_n C 2 dLa_law_381 rfl rfl ?_
  refine v_callV C (c1 (kl x) (kD x)) mwMo_events cfMo m0 w813 w814 w812 rfl rfl (ble rfl) (ble rfl) (ble rfl) (by show cells + 0 + 0 ≤ 247816; omega) (by show slots + 0 + 0 ≤ 8352658; omega) dLa_law_382 ?_
  intro v3 g3 I3 J3 hP3
  obtain ⟨rfl, hJ3⟩ := c2 v3 g3 I3 J3 hP3
  refine v_icmp_eq C 894 dLa_law_385 (by decide) (fun _ => ?_) (fun h => absurd rfl h)
  exact V.widen (next g3 I3 J3 _ _ _ hJ3) (by show cells + 0 + 0 ≤ cells + 30; omega) (by show slots + 0 + 0 ≤ slots + 11250; omega)
set_option maxHeartbeats 2000000 in
theorem la_possibilities {x : KX} {g : GM} {cells slots : Nat} {I : MI} {J : MJ} {b L a it len : Nat} {xs scr : Nat → Int32} (C : Cx x bLa_law RLa 8 room_1) (H : LB x b L xs) (hJ : JX b len scr g I J a it) (hq : 6 * it + 6 ≤ L) (hL : L ≤ 3072) (hc : cells + 30 ≤ 247816) (hs : slots + 11250 ≤ 8352658) (next : ∀ (g3 : GM) (I3 : MI) (J3 : MJ) (l5 l6 l7 : Option Value), JX b len scr g3 I3 J3 a (it + 1) → V x g3 (cells + 30) (slots + 11250) I3 J3 894 [some (.ref b), some (.ref a), some (.ref (a + 18)), some (.ref (a + 45)), some (.int (nI (6 * it))), l5, l6, l7] []) : V x g cells slots I J 390 [some (.ref b), some (.ref a), some (.ref (a + 18)), some (.ref (a + 45)), some (.int (nI (6 * it))), none, none, none] [] := by
  obtain ⟨P1, w1, w2⟩ := s_possibilities hJ (by omega) (xs (6 * it + 1))
  refine v_aload_n C 1 dLa_law_390 rfl rfl ?_
  refine v_aload_n C 0 dLa_law_391 rfl rfl ?_
  refine v_iload C dLa_law_392 rfl ?_
  refine v_iconst C 1 dLa_law_394 (by decide) ?_
  refine v_iadd C dLa_law_395 ?_
  refine v_sldN C H.1 H.2.1 H.2.2.1 (q := 6 * it + 1) (nI_add _ 1) (by omega) (by omega) dLa_law_396 ?_
  refine v_aload_n C 3 dLa_law_397 rfl rfl ?_
  refine v_callW (n := 3) C H.2.2.2.1 H.2.2.2.2.1 H.2.2.2.2.2 (w1 (kl x) (kD x)) w532 w0 (by decide) (by decide +kernel) w531 w530 rfl rfl (ble rfl) (ble rfl) (ble rfl) (by show cells + 30 ≤ 247816; omega) (by show slots + 11250 ≤ 8352658; omega) dLa_law_398 ?_
  intro v g2 I2 J2 hP
  obtain ⟨z, rfl, -, -, m0, -, P2, c1, c2⟩ := w2 v g2 I2 J2 hP
  refine v_istore C dLa_law_401 (ble rfl) rfl ?_
  refine v_aload_n C 2 dLa_law_403 rfl rfl ?_
  refine v_aload_n C 0 dLa_law_404 rfl rfl ?_
  refine v_iload C dLa_law_405 rfl ?_
  refine v_iconst C 1 dLa_law_407 (by decide) ?_
  refine v_iadd C dLa_law_408 ?_
  refine v_sldN C H.1 H.2.1 H.2.2.1 (q := 6 * it + 1) (nI_add _ 1) (by omega) (by omega) dLa_law_409 ?_
  refine v_callV C (c1 (kl x) (kD x)) mwMo_possibilities cfMo m0 w817 w818 w816 rfl rfl (ble rfl) (ble rfl) (ble rfl) (by show cells + 30 + 0 ≤ 247816; omega) (by show slots + 11250 + 0 ≤ 8352658; omega) dLa_law_410 ?_
  intro v3 g3 I3 J3 hP3
  obtain ⟨b', rfl, e0, ez, hJ3⟩ := c2 v3 g3 I3 J3 hP3
  refine v_istore C dLa_law_413 (ble rfl) rfl ?_
  refine v_aload_n C 2 dLa_law_415 rfl rfl ?_
  refine v_cVi C (c_Mo_thrown (kl x) (kD x) g3 I3 J3 hJ3.at.2.1) mwMo_thrown cfMo hJ3.at.2.1 w781 w782 w780 rfl rfl (ble rfl) (ble rfl) (ble rfl) (by show cells + 30 + 0 + 0 ≤ 247816; omega) (by show slots + 11250 + 0 + 0 ≤ 8352658; omega) dLa_law_416 ?_
  refine v_iload C dLa_law_419 rfl ?_
  refine v_icmp_eq C 426 dLa_law_421 (by decide) (fun _ => ?_) (fun h => absurd e0 h)
  refine v_iload C dLa_law_426 rfl ?_
  by_cases hz : z = 0
  · refine v_if_ne C 443 dLa_law_428 (by decide) (fun h => absurd hz h) (fun _ => ?_)
    refine v_aload_n C 3 dLa_law_431 rfl rfl ?_
    refine v_iconst C 0 dLa_law_432 (by decide) ?_
    refine v_laldN C (q := 0) hJ3.at.2.2 rfl (by decide) (by decide) (ez hz) dLa_law_433 ?_
    refine v_iload C dLa_law_434 rfl ?_
    refine v_i2l C dLa_law_436 ?_
    refine v_lcmp C dLa_law_437 ?_
    refine v_if_eq C 443 dLa_law_438 (by decide) (fun _ => ?_) (fun h => absurd (lcmpE.mpr rfl) h)
    refine v_goto C 894 dLa_law_443 (by decide) ?_
    exact V.widen (next g3 I3 J3 _ _ _ hJ3) (by show cells + 30 + 0 + 0 ≤ cells + 30; omega) (by show slots + 11250 + 0 + 0 ≤ slots + 11250; omega)
  · refine v_if_ne C 443 dLa_law_428 (by decide) (fun _ => ?_) (fun h => absurd h hz)
    refine v_goto C 894 dLa_law_443 (by decide) ?_
    exact V.widen (next g3 I3 J3 _ _ _ hJ3) (by show cells + 30 + 0 + 0 ≤ cells + 30; omega) (by show slots + 11250 + 0 + 0 ≤ slots + 11250; omega)
set_option maxHeartbeats 2000000 in
theorem la_judge {x : KX} {g : GM} {cells slots : Nat} {I : MI} {J : MJ} {b L a it len : Nat} {xs scr : Nat → Int32} (C : Cx x bLa_law RLa 8 room_1) (H : LB x b L xs) (hJ : JX b len scr g I J a it) (hq : 6 * it + 6 ≤ L) (hL : L ≤ 3072) (hc : cells + 30 ≤ 247816) (hs : slots + 11250 ≤ 8352658) (next : ∀ (g3 : GM) (I3 : MI) (J3 : MJ) (l5 l6 l7 : Option Value), JX b len scr g3 I3 J3 a (it + 1) → V x g3 (cells + 30) (slots + 11250) I3 J3 894 [some (.ref b), some (.ref a), some (.ref (a + 18)), some (.ref (a + 45)), some (.int (nI (6 * it))), l5, l6, l7] []) : V x g cells slots I J 446 [some (.ref b), some (.ref a), some (.ref (a + 18)), some (.ref (a + 45)), some (.int (nI (6 * it))), none, none, none] [] := by
  obtain ⟨P1, w1, w2⟩ := s_judge hJ (by omega) (xs (6 * it + 1))
  refine v_aload_n C 1 dLa_law_446 rfl rfl ?_
  refine v_aload_n C 0 dLa_law_447 rfl rfl ?_
  refine v_iload C dLa_law_448 rfl ?_
  refine v_iconst C 1 dLa_law_450 (by decide) ?_
  refine v_iadd C dLa_law_451 ?_
  refine v_sldN C H.1 H.2.1 H.2.2.1 (q := 6 * it + 1) (nI_add _ 1) (by omega) (by omega) dLa_law_452 ?_
  refine v_aload_n C 3 dLa_law_453 rfl rfl ?_
  refine v_callW (n := 3) C H.2.2.2.1 H.2.2.2.2.1 H.2.2.2.2.2 (w1 (kl x) (kD x)) w543 w0 (by decide) (by decide +kernel) w542 w541 rfl rfl (ble rfl) (ble rfl) (ble rfl) (by show cells + 30 ≤ 247816; omega) (by show slots + 11250 ≤ 8352658; omega) dLa_law_454 ?_
  intro v g2 I2 J2 hP
  obtain ⟨z, rfl, -, -, m0, -, P2, c1, c2⟩ := w2 v g2 I2 J2 hP
  refine v_istore C dLa_law_457 (ble rfl) rfl ?_
  refine v_aload_n C 2 dLa_law_459 rfl rfl ?_
  refine v_aload_n C 0 dLa_law_460 rfl rfl ?_
  refine v_iload C dLa_law_461 rfl ?_
  refine v_iconst C 1 dLa_law_463 (by decide) ?_
  refine v_iadd C dLa_law_464 ?_
  refine v_sldN C H.1 H.2.1 H.2.2.1 (q := 6 * it + 1) (nI_add _ 1) (by omega) (by omega) dLa_law_465 ?_
  refine v_callV C (c1 (kl x) (kD x)) mwMo_judge cfMo m0 w890 w891 w889 rfl rfl (ble rfl) (ble rfl) (ble rfl) (by show cells + 30 + 0 ≤ 247816; omega) (by show slots + 11250 + 0 ≤ 8352658; omega) dLa_law_466 ?_
  intro v3 g3 I3 J3 hP3
  obtain ⟨b', rfl, e0, ez, hJ3⟩ := c2 v3 g3 I3 J3 hP3
  refine v_istore C dLa_law_469 (ble rfl) rfl ?_
  refine v_aload_n C 2 dLa_law_471 rfl rfl ?_
  refine v_cVi C (c_Mo_thrown (kl x) (kD x) g3 I3 J3 hJ3.at.2.1) mwMo_thrown cfMo hJ3.at.2.1 w781 w782 w780 rfl rfl (ble rfl) (ble rfl) (ble rfl) (by show cells + 30 + 0 + 0 ≤ 247816; omega) (by show slots + 11250 + 0 + 0 ≤ 8352658; omega) dLa_law_472 ?_
  refine v_iload C dLa_law_475 rfl ?_
  refine v_icmp_eq C 482 dLa_law_477 (by decide) (fun _ => ?_) (fun h => absurd e0 h)
  refine v_iload C dLa_law_482 rfl ?_
  by_cases hz : z = 0
  · refine v_if_ne C 499 dLa_law_484 (by decide) (fun h => absurd hz h) (fun _ => ?_)
    refine v_aload_n C 3 dLa_law_487 rfl rfl ?_
    refine v_iconst C 0 dLa_law_488 (by decide) ?_
    refine v_laldN C (q := 0) hJ3.at.2.2 rfl (by decide) (by decide) (ez hz) dLa_law_489 ?_
    refine v_iload C dLa_law_490 rfl ?_
    refine v_i2l C dLa_law_492 ?_
    refine v_lcmp C dLa_law_493 ?_
    refine v_if_eq C 499 dLa_law_494 (by decide) (fun _ => ?_) (fun h => absurd (lcmpE.mpr rfl) h)
    refine v_goto C 894 dLa_law_499 (by decide) ?_
    exact V.widen (next g3 I3 J3 _ _ _ hJ3) (by show cells + 30 + 0 + 0 ≤ cells + 30; omega) (by show slots + 11250 + 0 + 0 ≤ slots + 11250; omega)
  · refine v_if_ne C 499 dLa_law_484 (by decide) (fun _ => ?_) (fun h => absurd h hz)
    refine v_goto C 894 dLa_law_499 (by decide) ?_
    exact V.widen (next g3 I3 J3 _ _ _ hJ3) (by show cells + 30 + 0 + 0 ≤ cells + 30; omega) (by show slots + 11250 + 0 + 0 ≤ slots + 11250; omega)
set_option maxHeartbeats 2000000 in
theorem la_judgeOwn {x : KX} {g : GM} {cells slots : Nat} {I : MI} {J : MJ} {b L a it len : Nat} {xs scr : Nat → Int32} (C : Cx x bLa_law RLa 8 room_1) (H : LB x b L xs) (hJ : JX b len scr g I J a it) (hq : 6 * it + 6 ≤ L) (hL : L ≤ 3072) (hc : cells + 30 ≤ 247816) (hs : slots + 11250 ≤ 8352658) (next : ∀ (g3 : GM) (I3 : MI) (J3 : MJ) (l5 l6 l7 : Option Value), JX b len scr g3 I3 J3 a (it + 1) → V x g3 (cells + 30) (slots + 11250) I3 J3 894 [some (.ref b), some (.ref a), some (.ref (a + 18)), some (.ref (a + 45)), some (.int (nI (6 * it))), l5, l6, l7] []) : V x g cells slots I J 502 [some (.ref b), some (.ref a), some (.ref (a + 18)), some (.ref (a + 45)), some (.int (nI (6 * it))), none, none, none] [] := by
  obtain ⟨P1, w1, w2⟩ := s_judgeOwn hJ (by omega) (xs (6 * it + 1))
  refine v_aload_n C 1 dLa_law_502 rfl rfl ?_
  refine v_aload_n C 0 dLa_law_503 rfl rfl ?_
  refine v_iload C dLa_law_504 rfl ?_
  refine v_iconst C 1 dLa_law_506 (by decide) ?_
  refine v_iadd C dLa_law_507 ?_
  refine v_sldN C H.1 H.2.1 H.2.2.1 (q := 6 * it + 1) (nI_add _ 1) (by omega) (by omega) dLa_law_508 ?_
  refine v_aload_n C 3 dLa_law_509 rfl rfl ?_
  refine v_callW (n := 3) C H.2.2.2.1 H.2.2.2.2.1 H.2.2.2.2.2 (w1 (kl x) (kD x)) w550 w0 (by decide) (by decide +kernel) w549 w548 rfl rfl (ble rfl) (ble rfl) (ble rfl) (by show cells + 30 ≤ 247816; omega) (by show slots + 11250 ≤ 8352658; omega) dLa_law_510 ?_
  intro v g2 I2 J2 hP
  obtain ⟨z, rfl, -, -, m0, -, P2, c1, c2⟩ := w2 v g2 I2 J2 hP
  refine v_istore C dLa_law_513 (ble rfl) rfl ?_
  refine v_aload_n C 2 dLa_law_515 rfl rfl ?_
  refine v_aload_n C 0 dLa_law_516 rfl rfl ?_
  refine v_iload C dLa_law_517 rfl ?_
  refine v_iconst C 1 dLa_law_519 (by decide) ?_
  refine v_iadd C dLa_law_520 ?_
  refine v_sldN C H.1 H.2.1 H.2.2.1 (q := 6 * it + 1) (nI_add _ 1) (by omega) (by omega) dLa_law_521 ?_
  refine v_callV C (c1 (kl x) (kD x)) mwMo_judgeOwn cfMo m0 w894 w895 w893 rfl rfl (ble rfl) (ble rfl) (ble rfl) (by show cells + 30 + 0 ≤ 247816; omega) (by show slots + 11250 + 0 ≤ 8352658; omega) dLa_law_522 ?_
  intro v3 g3 I3 J3 hP3
  obtain ⟨b', rfl, e0, ez, hJ3⟩ := c2 v3 g3 I3 J3 hP3
  refine v_istore C dLa_law_525 (ble rfl) rfl ?_
  refine v_aload_n C 2 dLa_law_527 rfl rfl ?_
  refine v_cVi C (c_Mo_thrown (kl x) (kD x) g3 I3 J3 hJ3.at.2.1) mwMo_thrown cfMo hJ3.at.2.1 w781 w782 w780 rfl rfl (ble rfl) (ble rfl) (ble rfl) (by show cells + 30 + 0 + 0 ≤ 247816; omega) (by show slots + 11250 + 0 + 0 ≤ 8352658; omega) dLa_law_528 ?_
  refine v_iload C dLa_law_531 rfl ?_
  refine v_icmp_eq C 538 dLa_law_533 (by decide) (fun _ => ?_) (fun h => absurd e0 h)
  refine v_iload C dLa_law_538 rfl ?_
  by_cases hz : z = 0
  · refine v_if_ne C 555 dLa_law_540 (by decide) (fun h => absurd hz h) (fun _ => ?_)
    refine v_aload_n C 3 dLa_law_543 rfl rfl ?_
    refine v_iconst C 0 dLa_law_544 (by decide) ?_
    refine v_laldN C (q := 0) hJ3.at.2.2 rfl (by decide) (by decide) (ez hz) dLa_law_545 ?_
    refine v_iload C dLa_law_546 rfl ?_
    refine v_i2l C dLa_law_548 ?_
    refine v_lcmp C dLa_law_549 ?_
    refine v_if_eq C 555 dLa_law_550 (by decide) (fun _ => ?_) (fun h => absurd (lcmpE.mpr rfl) h)
    refine v_goto C 894 dLa_law_555 (by decide) ?_
    exact V.widen (next g3 I3 J3 _ _ _ hJ3) (by show cells + 30 + 0 + 0 ≤ cells + 30; omega) (by show slots + 11250 + 0 + 0 ≤ slots + 11250; omega)
  · refine v_if_ne C 555 dLa_law_540 (by decide) (fun _ => ?_) (fun h => absurd h hz)
    refine v_goto C 894 dLa_law_555 (by decide) ?_
    exact V.widen (next g3 I3 J3 _ _ _ hJ3) (by show cells + 30 + 0 + 0 ≤ cells + 30; omega) (by show slots + 11250 + 0 + 0 ≤ slots + 11250; omega)
set_option maxHeartbeats 2000000 in
theorem la_ways {x : KX} {g : GM} {cells slots : Nat} {I : MI} {J : MJ} {b L a it len : Nat} {xs scr : Nat → Int32} (C : Cx x bLa_law RLa 8 room_1) (H : LB x b L xs) (hJ : JX b len scr g I J a it) (hq : 6 * it + 6 ≤ L) (hL : L ≤ 3072) (hc : cells + 30 ≤ 247816) (hs : slots + 11250 ≤ 8352658) (next : ∀ (g3 : GM) (I3 : MI) (J3 : MJ) (l5 l6 l7 : Option Value), JX b len scr g3 I3 J3 a (it + 1) → V x g3 (cells + 30) (slots + 11250) I3 J3 894 [some (.ref b), some (.ref a), some (.ref (a + 18)), some (.ref (a + 45)), some (.int (nI (6 * it))), l5, l6, l7] []) : V x g cells slots I J 558 [some (.ref b), some (.ref a), some (.ref (a + 18)), some (.ref (a + 45)), some (.int (nI (6 * it))), none, none, none] [] := by
  obtain ⟨P1, w1, w2⟩ := s_ways hJ (by omega) (xs (6 * it + 1))
  refine v_aload_n C 1 dLa_law_558 rfl rfl ?_
  refine v_aload_n C 0 dLa_law_559 rfl rfl ?_
  refine v_iload C dLa_law_560 rfl ?_
  refine v_iconst C 1 dLa_law_562 (by decide) ?_
  refine v_iadd C dLa_law_563 ?_
  refine v_sldN C H.1 H.2.1 H.2.2.1 (q := 6 * it + 1) (nI_add _ 1) (by omega) (by omega) dLa_law_564 ?_
  refine v_aload_n C 3 dLa_law_565 rfl rfl ?_
  refine v_callW (n := 3) C H.2.2.2.1 H.2.2.2.2.1 H.2.2.2.2.2 (w1 (kl x) (kD x)) w561 w0 (by decide) (by decide +kernel) w560 w559 rfl rfl (ble rfl) (ble rfl) (ble rfl) (by show cells + 30 ≤ 247816; omega) (by show slots + 11250 ≤ 8352658; omega) dLa_law_566 ?_
  intro v g2 I2 J2 hP
  obtain ⟨z, rfl, -, -, m0, -, P2, c1, c2⟩ := w2 v g2 I2 J2 hP
  refine v_istore C dLa_law_569 (ble rfl) rfl ?_
  refine v_aload_n C 2 dLa_law_571 rfl rfl ?_
  refine v_aload_n C 0 dLa_law_572 rfl rfl ?_
  refine v_iload C dLa_law_573 rfl ?_
  refine v_iconst C 1 dLa_law_575 (by decide) ?_
  refine v_iadd C dLa_law_576 ?_
  refine v_sldN C H.1 H.2.1 H.2.2.1 (q := 6 * it + 1) (nI_add _ 1) (by omega) (by omega) dLa_law_577 ?_
  refine v_callV C (c1 (kl x) (kD x)) mwMo_ways cfMo m0 w898 w899 w897 rfl rfl (ble rfl) (ble rfl) (ble rfl) (by show cells + 30 + 0 ≤ 247816; omega) (by show slots + 11250 + 0 ≤ 8352658; omega) dLa_law_578 ?_
  intro v3 g3 I3 J3 hP3
  obtain ⟨b', rfl, e0, ez, hJ3⟩ := c2 v3 g3 I3 J3 hP3
  refine v_lstore C dLa_law_581 (ble rfl) rfl ?_
  refine v_aload_n C 2 dLa_law_583 rfl rfl ?_
  refine v_cVi C (c_Mo_thrown (kl x) (kD x) g3 I3 J3 hJ3.at.2.1) mwMo_thrown cfMo hJ3.at.2.1 w781 w782 w780 rfl rfl (ble rfl) (ble rfl) (ble rfl) (by show cells + 30 + 0 + 0 ≤ 247816; omega) (by show slots + 11250 + 0 + 0 ≤ 8352658; omega) dLa_law_584 ?_
  refine v_iload C dLa_law_587 rfl ?_
  refine v_icmp_eq C 594 dLa_law_589 (by decide) (fun _ => ?_) (fun h => absurd e0 h)
  refine v_iload C dLa_law_594 rfl ?_
  by_cases hz : z = 0
  · refine v_if_ne C 610 dLa_law_596 (by decide) (fun h => absurd hz h) (fun _ => ?_)
    refine v_aload_n C 3 dLa_law_599 rfl rfl ?_
    refine v_iconst C 0 dLa_law_600 (by decide) ?_
    refine v_laldN C (q := 0) hJ3.at.2.2 rfl (by decide) (by decide) (ez hz) dLa_law_601 ?_
    refine v_lload C dLa_law_602 rfl ?_
    refine v_lcmp C dLa_law_604 ?_
    refine v_if_eq C 610 dLa_law_605 (by decide) (fun _ => ?_) (fun h => absurd (lcmpE.mpr rfl) h)
    refine v_goto C 894 dLa_law_610 (by decide) ?_
    exact V.widen (next g3 I3 J3 _ _ _ hJ3) (by show cells + 30 + 0 + 0 ≤ cells + 30; omega) (by show slots + 11250 + 0 + 0 ≤ slots + 11250; omega)
  · refine v_if_ne C 610 dLa_law_596 (by decide) (fun _ => ?_) (fun h => absurd h hz)
    refine v_goto C 894 dLa_law_610 (by decide) ?_
    exact V.widen (next g3 I3 J3 _ _ _ hJ3) (by show cells + 30 + 0 + 0 ≤ cells + 30; omega) (by show slots + 11250 + 0 + 0 ≤ slots + 11250; omega)
set_option maxHeartbeats 2000000 in
theorem la_lasts {x : KX} {g : GM} {cells slots : Nat} {I : MI} {J : MJ} {b L a it len : Nat} {xs scr : Nat → Int32} (C : Cx x bLa_law RLa 8 room_1) (H : LB x b L xs) (hJ : JX b len scr g I J a it) (hq : 6 * it + 6 ≤ L) (hL : L ≤ 3072) (hc : cells + 30 ≤ 247816) (hs : slots + 11250 ≤ 8352658) (next : ∀ (g3 : GM) (I3 : MI) (J3 : MJ) (l5 l6 l7 : Option Value), JX b len scr g3 I3 J3 a (it + 1) → V x g3 (cells + 30) (slots + 11250) I3 J3 894 [some (.ref b), some (.ref a), some (.ref (a + 18)), some (.ref (a + 45)), some (.int (nI (6 * it))), l5, l6, l7] []) : V x g cells slots I J 613 [some (.ref b), some (.ref a), some (.ref (a + 18)), some (.ref (a + 45)), some (.int (nI (6 * it))), none, none, none] [] := by
  obtain ⟨P1, w1, w2⟩ := s_lasts hJ (by omega) (xs (6 * it + 1))
  refine v_aload_n C 1 dLa_law_613 rfl rfl ?_
  refine v_aload_n C 0 dLa_law_614 rfl rfl ?_
  refine v_iload C dLa_law_615 rfl ?_
  refine v_iconst C 1 dLa_law_617 (by decide) ?_
  refine v_iadd C dLa_law_618 ?_
  refine v_sldN C H.1 H.2.1 H.2.2.1 (q := 6 * it + 1) (nI_add _ 1) (by omega) (by omega) dLa_law_619 ?_
  refine v_aload_n C 3 dLa_law_620 rfl rfl ?_
  refine v_callW (n := 3) C H.2.2.2.1 H.2.2.2.2.1 H.2.2.2.2.2 (w1 (kl x) (kD x)) w568 w0 (by decide) (by decide +kernel) w567 w566 rfl rfl (ble rfl) (ble rfl) (ble rfl) (by show cells + 30 ≤ 247816; omega) (by show slots + 11250 ≤ 8352658; omega) dLa_law_621 ?_
  intro v g2 I2 J2 hP
  obtain ⟨z, rfl, -, -, m0, -, P2, c1, c2⟩ := w2 v g2 I2 J2 hP
  refine v_istore C dLa_law_624 (ble rfl) rfl ?_
  refine v_aload_n C 2 dLa_law_626 rfl rfl ?_
  refine v_aload_n C 0 dLa_law_627 rfl rfl ?_
  refine v_iload C dLa_law_628 rfl ?_
  refine v_iconst C 1 dLa_law_630 (by decide) ?_
  refine v_iadd C dLa_law_631 ?_
  refine v_sldN C H.1 H.2.1 H.2.2.1 (q := 6 * it + 1) (nI_add _ 1) (by omega) (by omega) dLa_law_632 ?_
  refine v_callV C (c1 (kl x) (kD x)) mwMo_lasts cfMo m0 w902 w903 w901 rfl rfl (ble rfl) (ble rfl) (ble rfl) (by show cells + 30 + 0 ≤ 247816; omega) (by show slots + 11250 + 0 ≤ 8352658; omega) dLa_law_633 ?_
  intro v3 g3 I3 J3 hP3
  obtain ⟨b', rfl, e0, ez, hJ3⟩ := c2 v3 g3 I3 J3 hP3
  refine v_istore C dLa_law_636 (ble rfl) rfl ?_
  refine v_aload_n C 2 dLa_law_638 rfl rfl ?_
  refine v_cVi C (c_Mo_thrown (kl x) (kD x) g3 I3 J3 hJ3.at.2.1) mwMo_thrown cfMo hJ3.at.2.1 w781 w782 w780 rfl rfl (ble rfl) (ble rfl) (ble rfl) (by show cells + 30 + 0 + 0 ≤ 247816; omega) (by show slots + 11250 + 0 + 0 ≤ 8352658; omega) dLa_law_639 ?_
  refine v_iload C dLa_law_642 rfl ?_
  refine v_icmp_eq C 649 dLa_law_644 (by decide) (fun _ => ?_) (fun h => absurd e0 h)
  refine v_iload C dLa_law_649 rfl ?_
  by_cases hz : z = 0
  · refine v_if_ne C 666 dLa_law_651 (by decide) (fun h => absurd hz h) (fun _ => ?_)
    refine v_aload_n C 3 dLa_law_654 rfl rfl ?_
    refine v_iconst C 0 dLa_law_655 (by decide) ?_
    refine v_laldN C (q := 0) hJ3.at.2.2 rfl (by decide) (by decide) (ez hz) dLa_law_656 ?_
    refine v_iload C dLa_law_657 rfl ?_
    refine v_i2l C dLa_law_659 ?_
    refine v_lcmp C dLa_law_660 ?_
    refine v_if_eq C 666 dLa_law_661 (by decide) (fun _ => ?_) (fun h => absurd (lcmpE.mpr rfl) h)
    refine v_goto C 894 dLa_law_666 (by decide) ?_
    exact V.widen (next g3 I3 J3 _ _ _ hJ3) (by show cells + 30 + 0 + 0 ≤ cells + 30; omega) (by show slots + 11250 + 0 + 0 ≤ slots + 11250; omega)
  · refine v_if_ne C 666 dLa_law_651 (by decide) (fun _ => ?_) (fun h => absurd h hz)
    refine v_goto C 894 dLa_law_666 (by decide) ?_
    exact V.widen (next g3 I3 J3 _ _ _ hJ3) (by show cells + 30 + 0 + 0 ≤ cells + 30; omega) (by show slots + 11250 + 0 + 0 ≤ slots + 11250; omega)
set_option maxHeartbeats 2000000 in
theorem la_broken {x : KX} {g : GM} {cells slots : Nat} {I : MI} {J : MJ} {b L a it len : Nat} {xs scr : Nat → Int32} (C : Cx x bLa_law RLa 8 room_1) (H : LB x b L xs) (hJ : JX b len scr g I J a it) (hq : 6 * it + 6 ≤ L) (hL : L ≤ 3072) (hc : cells + 30 ≤ 247816) (hs : slots + 11250 ≤ 8352658) (next : ∀ (g3 : GM) (I3 : MI) (J3 : MJ) (l5 l6 l7 : Option Value), JX b len scr g3 I3 J3 a (it + 1) → V x g3 (cells + 30) (slots + 11250) I3 J3 894 [some (.ref b), some (.ref a), some (.ref (a + 18)), some (.ref (a + 45)), some (.int (nI (6 * it))), l5, l6, l7] []) : V x g cells slots I J 669 [some (.ref b), some (.ref a), some (.ref (a + 18)), some (.ref (a + 45)), some (.int (nI (6 * it))), none, none, none] [] := by
  obtain ⟨P1, w1, w2⟩ := s_broken hJ (by omega) (xs (6 * it + 1))
  refine v_aload_n C 1 dLa_law_669 rfl rfl ?_
  refine v_aload_n C 0 dLa_law_670 rfl rfl ?_
  refine v_iload C dLa_law_671 rfl ?_
  refine v_iconst C 1 dLa_law_673 (by decide) ?_
  refine v_iadd C dLa_law_674 ?_
  refine v_sldN C H.1 H.2.1 H.2.2.1 (q := 6 * it + 1) (nI_add _ 1) (by omega) (by omega) dLa_law_675 ?_
  refine v_aload_n C 3 dLa_law_676 rfl rfl ?_
  refine v_callW (n := 3) C H.2.2.2.1 H.2.2.2.2.1 H.2.2.2.2.2 (w1 (kl x) (kD x)) w575 w0 (by decide) (by decide +kernel) w574 w573 rfl rfl (ble rfl) (ble rfl) (ble rfl) (by show cells + 30 ≤ 247816; omega) (by show slots + 11250 ≤ 8352658; omega) dLa_law_677 ?_
  intro v g2 I2 J2 hP
  obtain ⟨z, rfl, -, -, m0, -, P2, c1, c2⟩ := w2 v g2 I2 J2 hP
  refine v_istore C dLa_law_680 (ble rfl) rfl ?_
  refine v_aload_n C 2 dLa_law_682 rfl rfl ?_
  refine v_aload_n C 0 dLa_law_683 rfl rfl ?_
  refine v_iload C dLa_law_684 rfl ?_
  refine v_iconst C 1 dLa_law_686 (by decide) ?_
  refine v_iadd C dLa_law_687 ?_
  refine v_sldN C H.1 H.2.1 H.2.2.1 (q := 6 * it + 1) (nI_add _ 1) (by omega) (by omega) dLa_law_688 ?_
  refine v_callV C (c1 (kl x) (kD x)) mwMo_broken cfMo m0 w906 w907 w905 rfl rfl (ble rfl) (ble rfl) (ble rfl) (by show cells + 30 + 0 ≤ 247816; omega) (by show slots + 11250 + 0 ≤ 8352658; omega) dLa_law_689 ?_
  intro v3 g3 I3 J3 hP3
  obtain ⟨b', rfl, e0, ez, hJ3⟩ := c2 v3 g3 I3 J3 hP3
  refine v_istore C dLa_law_692 (ble rfl) rfl ?_
  refine v_aload_n C 2 dLa_law_694 rfl rfl ?_
  refine v_cVi C (c_Mo_thrown (kl x) (kD x) g3 I3 J3 hJ3.at.2.1) mwMo_thrown cfMo hJ3.at.2.1 w781 w782 w780 rfl rfl (ble rfl) (ble rfl) (ble rfl) (by show cells + 30 + 0 + 0 ≤ 247816; omega) (by show slots + 11250 + 0 + 0 ≤ 8352658; omega) dLa_law_695 ?_
  refine v_iload C dLa_law_698 rfl ?_
  refine v_icmp_eq C 705 dLa_law_700 (by decide) (fun _ => ?_) (fun h => absurd e0 h)
  refine v_iload C dLa_law_705 rfl ?_
  by_cases hz : z = 0
  · refine v_if_ne C 722 dLa_law_707 (by decide) (fun h => absurd hz h) (fun _ => ?_)
    refine v_aload_n C 3 dLa_law_710 rfl rfl ?_
    refine v_iconst C 0 dLa_law_711 (by decide) ?_
    refine v_laldN C (q := 0) hJ3.at.2.2 rfl (by decide) (by decide) (ez hz) dLa_law_712 ?_
    refine v_iload C dLa_law_713 rfl ?_
    refine v_i2l C dLa_law_715 ?_
    refine v_lcmp C dLa_law_716 ?_
    refine v_if_eq C 722 dLa_law_717 (by decide) (fun _ => ?_) (fun h => absurd (lcmpE.mpr rfl) h)
    refine v_goto C 894 dLa_law_722 (by decide) ?_
    exact V.widen (next g3 I3 J3 _ _ _ hJ3) (by show cells + 30 + 0 + 0 ≤ cells + 30; omega) (by show slots + 11250 + 0 + 0 ≤ slots + 11250; omega)
  · refine v_if_ne C 722 dLa_law_707 (by decide) (fun _ => ?_) (fun h => absurd h hz)
    refine v_goto C 894 dLa_law_722 (by decide) ?_
    exact V.widen (next g3 I3 J3 _ _ _ hJ3) (by show cells + 30 + 0 + 0 ≤ cells + 30; omega) (by show slots + 11250 + 0 + 0 ≤ slots + 11250; omega)
set_option maxHeartbeats 2000000 in
theorem la_linear {x : KX} {g : GM} {cells slots : Nat} {I : MI} {J : MJ} {b L a it len : Nat} {xs scr : Nat → Int32} (C : Cx x bLa_law RLa 8 room_1) (H : LB x b L xs) (hJ : JX b len scr g I J a it) (hq : 6 * it + 6 ≤ L) (hL : L ≤ 3072) (hc : cells + 30 ≤ 247816) (hs : slots + 11250 ≤ 8352658) (next : ∀ (g3 : GM) (I3 : MI) (J3 : MJ) (l5 l6 l7 : Option Value), JX b len scr g3 I3 J3 a (it + 1) → V x g3 (cells + 30) (slots + 11250) I3 J3 894 [some (.ref b), some (.ref a), some (.ref (a + 18)), some (.ref (a + 45)), some (.int (nI (6 * it))), l5, l6, l7] []) : V x g cells slots I J 725 [some (.ref b), some (.ref a), some (.ref (a + 18)), some (.ref (a + 45)), some (.int (nI (6 * it))), none, none, none] [] := by
  obtain ⟨P1, w1, w2⟩ := s_linear hJ (by omega)
  refine v_aload_n C 1 dLa_law_725 rfl rfl ?_
  refine v_callV C (w1 (kl x) (kD x)) mwLH_linear cfLH hJ.at.1 w166 w167 w165 rfl rfl (ble rfl) (ble rfl) (ble rfl) (by show cells + 0 ≤ 247816; omega) (by show slots + 0 ≤ 8352658; omega) dLa_law_726 ?_
  intro v g2 I2 J2 hP
  obtain ⟨z, rfl, m0, P2, c1, c2⟩ := w2 v g2 I2 J2 hP
  refine v_aload_n C 2 dLa_law_729 rfl rfl ?_
  refine v_callV C (c1 (kl x) (kD x)) mwMo_linear cfMo m0 w914 w915 w913 rfl rfl (ble rfl) (ble rfl) (ble rfl) (by show cells + 0 + 0 ≤ 247816; omega) (by show slots + 0 + 0 ≤ 8352658; omega) dLa_law_730 ?_
  intro v3 g3 I3 J3 hP3
  obtain ⟨rfl, hJ3⟩ := c2 v3 g3 I3 J3 hP3
  refine v_icmp_eq C 894 dLa_law_733 (by decide) (fun _ => ?_) (fun h => absurd rfl h)
  exact V.widen (next g3 I3 J3 _ _ _ hJ3) (by show cells + 0 + 0 ≤ cells + 30; omega) (by show slots + 0 + 0 ≤ slots + 11250; omega)
set_option maxHeartbeats 2000000 in
theorem la_length {x : KX} {g : GM} {cells slots : Nat} {I : MI} {J : MJ} {b L a it len : Nat} {xs scr : Nat → Int32} (C : Cx x bLa_law RLa 8 room_1) (H : LB x b L xs) (hJ : JX b len scr g I J a it) (hq : 6 * it + 6 ≤ L) (hL : L ≤ 3072) (hc : cells + 30 ≤ 247816) (hs : slots + 11250 ≤ 8352658) (next : ∀ (g3 : GM) (I3 : MI) (J3 : MJ) (l5 l6 l7 : Option Value), JX b len scr g3 I3 J3 a (it + 1) → V x g3 (cells + 30) (slots + 11250) I3 J3 894 [some (.ref b), some (.ref a), some (.ref (a + 18)), some (.ref (a + 45)), some (.int (nI (6 * it))), l5, l6, l7] []) : V x g cells slots I J 738 [some (.ref b), some (.ref a), some (.ref (a + 18)), some (.ref (a + 45)), some (.int (nI (6 * it))), none, none, none] [] := by
  obtain ⟨P1, w1, w2⟩ := s_length hJ (by omega)
  refine v_aload_n C 1 dLa_law_738 rfl rfl ?_
  refine v_aload_n C 3 dLa_law_739 rfl rfl ?_
  refine v_callW (n := 2) C H.2.2.2.1 H.2.2.2.2.1 H.2.2.2.2.2 (w1 (kl x) (kD x)) w587 w0 (by decide) (by decide +kernel) w586 w585 rfl rfl (ble rfl) (ble rfl) (ble rfl) (by show cells + 30 ≤ 247816; omega) (by show slots + 11250 ≤ 8352658; omega) dLa_law_740 ?_
  intro v g2 I2 J2 hP
  obtain ⟨z, rfl, -, -, m0, -, P2, c1, c2⟩ := w2 v g2 I2 J2 hP
  refine v_istore C dLa_law_743 (ble rfl) rfl ?_
  refine v_aload_n C 2 dLa_law_745 rfl rfl ?_
  refine v_callV C (c1 (kl x) (kD x)) mwMo_length cfMo m0 w922 w923 w921 rfl rfl (ble rfl) (ble rfl) (ble rfl) (by show cells + 30 + 0 ≤ 247816; omega) (by show slots + 11250 + 0 ≤ 8352658; omega) dLa_law_746 ?_
  intro v3 g3 I3 J3 hP3
  obtain ⟨b', rfl, e0, ez, hJ3⟩ := c2 v3 g3 I3 J3 hP3
  refine v_istore C dLa_law_749 (ble rfl) rfl ?_
  refine v_aload_n C 2 dLa_law_751 rfl rfl ?_
  refine v_cVi C (c_Mo_thrown (kl x) (kD x) g3 I3 J3 hJ3.at.2.1) mwMo_thrown cfMo hJ3.at.2.1 w781 w782 w780 rfl rfl (ble rfl) (ble rfl) (ble rfl) (by show cells + 30 + 0 + 0 ≤ 247816; omega) (by show slots + 11250 + 0 + 0 ≤ 8352658; omega) dLa_law_752 ?_
  refine v_iload C dLa_law_755 rfl ?_
  refine v_icmp_eq C 762 dLa_law_757 (by decide) (fun _ => ?_) (fun h => absurd e0 h)
  refine v_iload C dLa_law_762 rfl ?_
  by_cases hz : z = 0
  · refine v_if_ne C 779 dLa_law_764 (by decide) (fun h => absurd hz h) (fun _ => ?_)
    refine v_aload_n C 3 dLa_law_767 rfl rfl ?_
    refine v_iconst C 0 dLa_law_768 (by decide) ?_
    refine v_laldN C (q := 0) hJ3.at.2.2 rfl (by decide) (by decide) (ez hz) dLa_law_769 ?_
    refine v_iload C dLa_law_770 rfl ?_
    refine v_i2l C dLa_law_772 ?_
    refine v_lcmp C dLa_law_773 ?_
    refine v_if_eq C 779 dLa_law_774 (by decide) (fun _ => ?_) (fun h => absurd (lcmpE.mpr rfl) h)
    refine v_goto C 894 dLa_law_779 (by decide) ?_
    exact V.widen (next g3 I3 J3 _ _ _ hJ3) (by show cells + 30 + 0 + 0 ≤ cells + 30; omega) (by show slots + 11250 + 0 + 0 ≤ slots + 11250; omega)
  · refine v_if_ne C 779 dLa_law_764 (by decide) (fun _ => ?_) (fun h => absurd h hz)
    refine v_goto C 894 dLa_law_779 (by decide) ?_
    exact V.widen (next g3 I3 J3 _ _ _ hJ3) (by show cells + 30 + 0 + 0 ≤ cells + 30; omega) (by show slots + 11250 + 0 + 0 ≤ slots + 11250; omega)
set_option maxHeartbeats 2000000 in
theorem la_row {x : KX} {g : GM} {cells slots : Nat} {I : MI} {J : MJ} {b L a it len : Nat} {xs scr : Nat → Int32} (C : Cx x bLa_law RLa 8 room_1) (H : LB x b L xs) (hJ : JX b len scr g I J a it) (hq : 6 * it + 6 ≤ L) (hL : L ≤ 3072) (hc : cells + 30 ≤ 247816) (hs : slots + 11250 ≤ 8352658) (next : ∀ (g3 : GM) (I3 : MI) (J3 : MJ) (l5 l6 l7 : Option Value), JX b len scr g3 I3 J3 a (it + 1) → V x g3 (cells + 30) (slots + 11250) I3 J3 894 [some (.ref b), some (.ref a), some (.ref (a + 18)), some (.ref (a + 45)), some (.int (nI (6 * it))), l5, l6, l7] []) : V x g cells slots I J 782 [some (.ref b), some (.ref a), some (.ref (a + 18)), some (.ref (a + 45)), some (.int (nI (6 * it))), none, none, none] [] := by
  obtain ⟨P1, w1, w2⟩ := s_row hJ (by omega) (xs (6 * it + 1))
  refine v_aload_n C 1 dLa_law_782 rfl rfl ?_
  refine v_aload_n C 0 dLa_law_783 rfl rfl ?_
  refine v_iload C dLa_law_784 rfl ?_
  refine v_iconst C 1 dLa_law_786 (by decide) ?_
  refine v_iadd C dLa_law_787 ?_
  refine v_sldN C H.1 H.2.1 H.2.2.1 (q := 6 * it + 1) (nI_add _ 1) (by omega) (by omega) dLa_law_788 ?_
  refine v_aload_n C 3 dLa_law_789 rfl rfl ?_
  refine v_callW (n := 3) C H.2.2.2.1 H.2.2.2.2.1 H.2.2.2.2.2 (w1 (kl x) (kD x)) w627 w0 (by decide) (by decide +kernel) w626 w625 rfl rfl (ble rfl) (ble rfl) (ble rfl) (by show cells + 30 ≤ 247816; omega) (by show slots + 11250 ≤ 8352658; omega) dLa_law_790 ?_
  intro v g2 I2 J2 hP
  obtain ⟨z, rfl, -, -, m0, -, P2, c1, c2⟩ := w2 v g2 I2 J2 hP
  refine v_istore C dLa_law_793 (ble rfl) rfl ?_
  refine v_aload_n C 2 dLa_law_795 rfl rfl ?_
  refine v_aload_n C 0 dLa_law_796 rfl rfl ?_
  refine v_iload C dLa_law_797 rfl ?_
  refine v_iconst C 1 dLa_law_799 (by decide) ?_
  refine v_iadd C dLa_law_800 ?_
  refine v_sldN C H.1 H.2.1 H.2.2.1 (q := 6 * it + 1) (nI_add _ 1) (by omega) (by omega) dLa_law_801 ?_
  refine v_callV C (c1 (kl x) (kD x)) mwMo_row cfMo m0 w946 w947 w945 rfl rfl (ble rfl) (ble rfl) (ble rfl) (by show cells + 30 + 0 ≤ 247816; omega) (by show slots + 11250 + 0 ≤ 8352658; omega) dLa_law_802 ?_
  intro v3 g3 I3 J3 hP3
  obtain ⟨b', rfl, e0, ez, hJ3⟩ := c2 v3 g3 I3 J3 hP3
  refine v_istore C dLa_law_805 (ble rfl) rfl ?_
  refine v_aload_n C 2 dLa_law_807 rfl rfl ?_
  refine v_cVi C (c_Mo_thrown (kl x) (kD x) g3 I3 J3 hJ3.at.2.1) mwMo_thrown cfMo hJ3.at.2.1 w781 w782 w780 rfl rfl (ble rfl) (ble rfl) (ble rfl) (by show cells + 30 + 0 + 0 ≤ 247816; omega) (by show slots + 11250 + 0 + 0 ≤ 8352658; omega) dLa_law_808 ?_
  refine v_iload C dLa_law_811 rfl ?_
  refine v_icmp_eq C 818 dLa_law_813 (by decide) (fun _ => ?_) (fun h => absurd e0 h)
  refine v_iload C dLa_law_818 rfl ?_
  by_cases hz : z = 0
  · refine v_if_ne C 835 dLa_law_820 (by decide) (fun h => absurd hz h) (fun _ => ?_)
    refine v_aload_n C 3 dLa_law_823 rfl rfl ?_
    refine v_iconst C 0 dLa_law_824 (by decide) ?_
    refine v_laldN C (q := 0) hJ3.at.2.2 rfl (by decide) (by decide) (ez hz) dLa_law_825 ?_
    refine v_iload C dLa_law_826 rfl ?_
    refine v_i2l C dLa_law_828 ?_
    refine v_lcmp C dLa_law_829 ?_
    refine v_if_eq C 835 dLa_law_830 (by decide) (fun _ => ?_) (fun h => absurd (lcmpE.mpr rfl) h)
    refine v_goto C 894 dLa_law_835 (by decide) ?_
    exact V.widen (next g3 I3 J3 _ _ _ hJ3) (by show cells + 30 + 0 + 0 ≤ cells + 30; omega) (by show slots + 11250 + 0 + 0 ≤ slots + 11250; omega)
  · refine v_if_ne C 835 dLa_law_820 (by decide) (fun _ => ?_) (fun h => absurd h hz)
    refine v_goto C 894 dLa_law_835 (by decide) ?_
    exact V.widen (next g3 I3 J3 _ _ _ hJ3) (by show cells + 30 + 0 + 0 ≤ cells + 30; omega) (by show slots + 11250 + 0 + 0 ≤ slots + 11250; omega)
set_option maxHeartbeats 2000000 in
theorem la_result {x : KX} {g : GM} {cells slots : Nat} {I : MI} {J : MJ} {b L a it len : Nat} {xs scr : Nat → Int32} (C : Cx x bLa_law RLa 8 room_1) (H : LB x b L xs) (hJ : JX b len scr g I J a it) (hq : 6 * it + 6 ≤ L) (hL : L ≤ 3072) (hc : cells + 30 ≤ 247816) (hs : slots + 11250 ≤ 8352658) (next : ∀ (g3 : GM) (I3 : MI) (J3 : MJ) (l5 l6 l7 : Option Value), JX b len scr g3 I3 J3 a (it + 1) → V x g3 (cells + 30) (slots + 11250) I3 J3 894 [some (.ref b), some (.ref a), some (.ref (a + 18)), some (.ref (a + 45)), some (.int (nI (6 * it))), l5, l6, l7] []) : V x g cells slots I J 838 [some (.ref b), some (.ref a), some (.ref (a + 18)), some (.ref (a + 45)), some (.int (nI (6 * it))), none, none, none] [] := by
  obtain ⟨P1, w1, w2⟩ := s_result hJ (by omega) (xs (6 * it + 1))
  refine v_aload_n C 1 dLa_law_838 rfl rfl ?_
  refine v_aload_n C 0 dLa_law_839 rfl rfl ?_
  refine v_iload C dLa_law_840 rfl ?_
  refine v_iconst C 1 dLa_law_842 (by decide) ?_
  refine v_iadd C dLa_law_843 ?_
  refine v_sldN C H.1 H.2.1 H.2.2.1 (q := 6 * it + 1) (nI_add _ 1) (by omega) (by omega) dLa_law_844 ?_
  refine v_aload_n C 3 dLa_law_845 rfl rfl ?_
  refine v_callW (n := 3) C H.2.2.2.1 H.2.2.2.2.1 H.2.2.2.2.2 (w1 (kl x) (kD x)) w655 w0 (by decide) (by decide +kernel) w654 w653 rfl rfl (ble rfl) (ble rfl) (ble rfl) (by show cells + 30 ≤ 247816; omega) (by show slots + 11250 ≤ 8352658; omega) dLa_law_846 ?_
  intro v g2 I2 J2 hP
  obtain ⟨z, rfl, -, -, m0, -, P2, c1, c2⟩ := w2 v g2 I2 J2 hP
  refine v_istore C dLa_law_849 (ble rfl) rfl ?_
  refine v_aload_n C 2 dLa_law_851 rfl rfl ?_
  refine v_aload_n C 0 dLa_law_852 rfl rfl ?_
  refine v_iload C dLa_law_853 rfl ?_
  refine v_iconst C 1 dLa_law_855 (by decide) ?_
  refine v_iadd C dLa_law_856 ?_
  refine v_sldN C H.1 H.2.1 H.2.2.1 (q := 6 * it + 1) (nI_add _ 1) (by omega) (by omega) dLa_law_857 ?_
  refine v_callV C (c1 (kl x) (kD x)) mwMo_result cfMo m0 w950 w951 w949 rfl rfl (ble rfl) (ble rfl) (ble rfl) (by show cells + 30 + 0 ≤ 247816; omega) (by show slots + 11250 + 0 ≤ 8352658; omega) dLa_law_858 ?_
  intro v3 g3 I3 J3 hP3
  obtain ⟨b', rfl, e0, ez, hJ3⟩ := c2 v3 g3 I3 J3 hP3
  refine v_istore C dLa_law_861 (ble rfl) rfl ?_
  refine v_aload_n C 2 dLa_law_863 rfl rfl ?_
  refine v_cVi C (c_Mo_thrown (kl x) (kD x) g3 I3 J3 hJ3.at.2.1) mwMo_thrown cfMo hJ3.at.2.1 w781 w782 w780 rfl rfl (ble rfl) (ble rfl) (ble rfl) (by show cells + 30 + 0 + 0 ≤ 247816; omega) (by show slots + 11250 + 0 + 0 ≤ 8352658; omega) dLa_law_864 ?_
  refine v_iload C dLa_law_867 rfl ?_
  refine v_icmp_eq C 874 dLa_law_869 (by decide) (fun _ => ?_) (fun h => absurd e0 h)
  refine v_iload C dLa_law_874 rfl ?_
  by_cases hz : z = 0
  · refine v_if_ne C 891 dLa_law_876 (by decide) (fun h => absurd hz h) (fun _ => ?_)
    refine v_aload_n C 3 dLa_law_879 rfl rfl ?_
    refine v_iconst C 0 dLa_law_880 (by decide) ?_
    refine v_laldN C (q := 0) hJ3.at.2.2 rfl (by decide) (by decide) (ez hz) dLa_law_881 ?_
    refine v_iload C dLa_law_882 rfl ?_
    refine v_i2l C dLa_law_884 ?_
    refine v_lcmp C dLa_law_885 ?_
    refine v_if_eq C 891 dLa_law_886 (by decide) (fun _ => ?_) (fun h => absurd (lcmpE.mpr rfl) h)
    refine v_goto C 894 dLa_law_891 (by decide) ?_
    exact V.widen (next g3 I3 J3 _ _ _ hJ3) (by show cells + 30 + 0 + 0 ≤ cells + 30; omega) (by show slots + 11250 + 0 + 0 ≤ slots + 11250; omega)
  · refine v_if_ne C 891 dLa_law_876 (by decide) (fun _ => ?_) (fun h => absurd h hz)
    refine v_goto C 894 dLa_law_891 (by decide) ?_
    exact V.widen (next g3 I3 J3 _ _ _ hJ3) (by show cells + 30 + 0 + 0 ≤ cells + 30; omega) (by show slots + 11250 + 0 + 0 ≤ slots + 11250; omega)
/-- the law's own end -/
def LE (x : KX) : Prop := ∀ (g : GM) (I : MI) (J : MJ) (cells slots : Nat) (lv : List (Option Value)), cells ≤ 247816 → slots ≤ 8352658 → V x g cells slots I J 901 lv [.int 1]
set_option maxHeartbeats 4000000 in
theorem la_loop {x : KX} {b L a len c0 s0 : Nat} {xs scr : Nat → Int32} (C : Cx x bLa_law RLa 8 room_1) (H : LB x b L xs) (hE : LE x) (hL : L ≤ 3072) (hc0 : c0 ≤ 50) (hs0 : s0 ≤ 60000) : ∀ (n it : Nat) (g : GM) (I : MI) (J : MJ), it + n = 512 → 6 * it ≤ L → JX b len scr g I J a it → V x g (c0 + 30 * it) (s0 + 11250 * it) I J 23 [some (.ref b), some (.ref a), some (.ref (a + 18)), some (.ref (a + 45)), some (.int (nI (6 * it))), none, none, none] [] := by
  intro n
  induction n with
  | zero =>
    intro it g I J hn hiL hJ
    refine v_iload C dLa_law_23 rfl ?_
    refine v_aload_n C 0 dLa_law_25 rfl rfl ?_
    refine v_slen C H.1 H.2.1 H.2.2.1 dLa_law_26 ?_
    refine v_bipush C 6 dLa_law_27 (by decide) ?_
    refine v_isub C dLa_law_29 ?_
    have hgt : nI L - 6 < nI (6 * it) := by
      have e : nI L - 6 = nI (L - 6) := pk_sub (b := 6) (by omega)
      rw [e]
      exact nI_lt (by omega) (by omega)
    refine v_icmp_gt C 900 dLa_law_30 (by decide) (fun _ => ?_) (fun h => absurd hgt h)
    refine v_iconst C 1 dLa_law_900 (by decide) ?_
    exact hE g I J _ _ _ (by omega) (by omega)
  | succ n ih =>
    intro it g I J hn hiL hJ
    refine v_iload C dLa_law_23 rfl ?_
    refine v_aload_n C 0 dLa_law_25 rfl rfl ?_
    refine v_slen C H.1 H.2.1 H.2.2.1 dLa_law_26 ?_
    refine v_bipush C 6 dLa_law_27 (by decide) ?_
    refine v_isub C dLa_law_29 ?_
    by_cases hq : 6 * it + 6 ≤ L
    · have hng : ¬ nI L - 6 < nI (6 * it) := by
        have e : nI L - 6 = nI (L - 6) := pk_sub (b := 6) (by omega)
        rw [e]
        exact nI_nlt (by omega) (by omega)
      refine v_icmp_gt C 900 dLa_law_30 (by decide) (fun h => absurd h hng) (fun _ => ?_)
      have next : ∀ (g3 : GM) (I3 : MI) (J3 : MJ) (l5 l6 l7 : Option Value), JX b len scr g3 I3 J3 a (it + 1) → V x g3 (c0 + 30 * it + 30) (s0 + 11250 * it + 11250) I3 J3 894 [some (.ref b), some (.ref a), some (.ref (a + 18)), some (.ref (a + 45)), some (.int (nI (6 * it))), l5, l6, l7] [] := by
        intro g3 I3 J3 l5 l6 l7 hJ3
        refine v_iinc C (nI (6 * (it + 1))) dLa_law_894 rfl (show nI (6 * it) + 6 = nI (6 * (it + 1)) from nI_add _ 6) (ble rfl) rfl ?_
        refine v_goto C 23 dLa_law_897 (by decide) ?_
        refine V.drop (lv2 := [some (.ref b), some (.ref a), some (.ref (a + 18)), some (.ref (a + 45)), some (.int (nI (6 * (it + 1)))), none, none, none]) ?_ ⟨rfl, rfl, rfl, rfl, rfl, trivial⟩
        exact V.widen (ih (it + 1) g3 I3 J3 (by omega) (by omega) hJ3) (by omega) (by omega)
      refine v_aload_n C 0 dLa_law_33 rfl rfl ?_
      refine v_iload C dLa_law_34 rfl ?_
      refine v_sldN C H.1 H.2.1 H.2.2.1 (q := 6 * it) rfl (by omega) (by omega) dLa_law_36 ?_
      refine v_bipush C 15 dLa_law_37 (by decide) ?_
      refine v_iand C dLa_law_39 ?_
      obtain ⟨k, hk, ek⟩ := pk_andE (xs (6 * it)) (m := 15) 4 (by decide)
      rw [ek]
      have hk : k < 16 := hk
      have hcc : c0 + 30 * it + 30 ≤ 247816 := by omega
      have hss : s0 + 11250 * it + 11250 ≤ 8352658 := by omega
      have hcase : k = 0 ∨ k = 1 ∨ k = 2 ∨ k = 3 ∨ k = 4 ∨ k = 5 ∨ k = 6 ∨ k = 7 ∨ k = 8 ∨ k = 9 ∨ k = 10 ∨ k = 11 ∨ k = 12 ∨ k = 13 ∨ k = 14 ∨ k = 15 := by omega
      rcases hcase with rfl | rfl | rfl | rfl | rfl | rfl | rfl | rfl | rfl | rfl | rfl | rfl | rfl | rfl | rfl | rfl
      · exact v_tableIn C 120 dLa_law_40 (by decide) (by decide) rfl (by decide) (la_object C H hJ hq hL hcc hss next)
      · exact v_tableIn C 176 dLa_law_40 (by decide) (by decide) rfl (by decide) (la_call C H hJ hq hL hcc hss next)
      · exact v_tableIn C 280 dLa_law_40 (by decide) (by decide) rfl (by decide) (la_back C H hJ hq hL hcc hss next)
      · exact v_tableIn C 328 dLa_law_40 (by decide) (by decide) rfl (by decide) (la_lose C H hJ hq hL hcc hss next)
      · exact v_tableIn C 364 dLa_law_40 (by decide) (by decide) rfl (by decide) (la_clear C H hJ hq hL hcc hss next)
      · exact v_tableIn C 377 dLa_law_40 (by decide) (by decide) rfl (by decide) (la_events C H hJ hq hL hcc hss next)
      · exact v_tableIn C 390 dLa_law_40 (by decide) (by decide) rfl (by decide) (la_possibilities C H hJ hq hL hcc hss next)
      · exact v_tableIn C 446 dLa_law_40 (by decide) (by decide) rfl (by decide) (la_judge C H hJ hq hL hcc hss next)
      · exact v_tableIn C 502 dLa_law_40 (by decide) (by decide) rfl (by decide) (la_judgeOwn C H hJ hq hL hcc hss next)
      · exact v_tableIn C 558 dLa_law_40 (by decide) (by decide) rfl (by decide) (la_ways C H hJ hq hL hcc hss next)
      · exact v_tableIn C 613 dLa_law_40 (by decide) (by decide) rfl (by decide) (la_lasts C H hJ hq hL hcc hss next)
      · exact v_tableIn C 669 dLa_law_40 (by decide) (by decide) rfl (by decide) (la_broken C H hJ hq hL hcc hss next)
      · exact v_tableIn C 725 dLa_law_40 (by decide) (by decide) rfl (by decide) (la_linear C H hJ hq hL hcc hss next)
      · exact v_tableIn C 738 dLa_law_40 (by decide) (by decide) rfl (by decide) (la_length C H hJ hq hL hcc hss next)
      · exact v_tableIn C 782 dLa_law_40 (by decide) (by decide) rfl (by decide) (la_row C H hJ hq hL hcc hss next)
      · exact v_tableIn C 838 dLa_law_40 (by decide) (by decide) rfl (by decide) (la_result C H hJ hq hL hcc hss next)
    · have hgt : nI L - 6 < nI (6 * it) := by
        rcases Nat.lt_or_ge L 6 with h6 | h6
        · exact Int32.lt_of_lt_of_le (pk_sneg (a := L) (b := 6) (by decide) h6) (nI_pos' (by omega))
        · have e : nI L - 6 = nI (L - 6) := pk_sub (b := 6) h6
          rw [e]
          exact nI_lt (by omega) (by omega)
      refine v_icmp_gt C 900 dLa_law_30 (by decide) (fun _ => ?_) (fun h => absurd hgt h)
      refine v_iconst C 1 dLa_law_900 (by decide) ?_
      exact hE g I J _ _ _ (by omega) (by omega)
