theorem s2_comm {α : Type} (f : Nat → Nat → α) (a j k : Nat) (v w : α) (h : j ≠ k) : s2 (s2 f a j v) a k w = s2 (s2 f a k w) a j v := by
  funext b i
  unfold s2
  by_cases h1 : b = a ∧ i = k
  · rw [if_pos h1]
    rw [if_neg (fun h2 => h (h2.2.symm.trans h1.2)), if_pos h1]
  · rw [if_neg h1]
    by_cases h2 : b = a ∧ i = j
    · rw [if_pos h2, if_pos h2]
    · rw [if_neg h2, if_neg h2, if_neg h1]
theorem thg_q (w : Int64) (p : Int32) : ∃ q, q < 16 ∧ thg w p = nI q := by
  unfold thg
  have e : (jushr w (4 * p) &&& 15).toInt32 = (jushr w (4 * p)).toInt32 &&& 15 := by
    rw [Int64.toInt32_and]
    rfl
  rw [e]
  exact pk_andE _ (m := 15) 4 (by decide)
def rplc (av : Nat → Int32) (a : Int32) (w : Int64) : Nat → Nat
  | 0 => 0
  | p + 1 => if a < av (ix (thg w (nI p))) then rplc av a w p else p + 1
theorem rplc_le (av : Nat → Int32) (a : Int32) (w : Int64) : ∀ p : Nat, rplc av a w p ≤ p
  | 0 => Nat.le_refl _
  | p + 1 => by
    simp only [rplc]
    have := rplc_le av a w p
    split <;> omega
def rins (w : Int64) (p sz nm : Int32) : Int64 :=
  ((if p = sz then 0 else jshl (jushr w (4 * p)) (4 * p + 4)) ||| jshl nm.toInt64 (4 * p)) ||| (if p = 0 then 0 else jushr (jshl w (64 - 4 * p)) (64 - 4 * p))
def rSeq (kind code a nm : Int32) (av : Nat → Int32) (w : Int64) (sz : Nat) : Int64 × Int32 × Int32 :=
  if code = 2 then (w, nI sz, nI sz)
  else if code = 0 then (rins w (nI (if kind = 4 then rplc av a w sz else sz)) (nI sz) nm, nI sz + 1, 0)
  else if sz = 0 then (w, nI sz, NOTH)
  else (if kind = 2 then w &&& (jshl 15 (4 * (if kind = 2 then nI sz - 1 else 0)) ^^^ (-1)) else jushr w 4, nI sz - 1, av (ix (thg w (if kind = 2 then nI sz - 1 else 0))))
set_option maxHeartbeats 2000000 in
theorem c_Mo_doRow (l : Launch) (D : va_G) (g : GM) (I : MI) (J : MJ) {m k i sz : Nat} {L : Nat → Nat} (code : Int32) (hM : MoAt g m) (hL : LsOK I m L) (hk : k < 6) (hi : i < 16) (hz : I m 28 = nI sz) (hz2 : sz ≤ 16) : Ct l yMo_doRow bMo_doRow 11 none (rmN 1 23) D [.ref m, .int (nI k), .int (nI i), .int code] g I J (PF none g (s2 (s2 I m 28 (rSeq (I (m + 1) k) code (rE I m L k i 7) (nI (nmF (fun j => rE I m L k j 7) (rE I m L k i 7) i 0)) (fun j => rE I m L k j 7) (J m 27) sz).2.1) m 29 (rSeq (I (m + 1) k) code (rE I m L k i 7) (nI (nmF (fun j => rE I m L k j 7) (rE I m L k i 7) i 0)) (fun j => rE I m L k j 7) (J m 27) sz).2.2) (s2 J m 27 (rSeq (I (m + 1) k) code (rE I m L k i 7) (nI (nmF (fun j => rE I m L k j 7) (rE I m L k i 7) i 0)) (fun j => rE I m L k j 7) (J m 27) sz).1)) := by
  refine Ct.of (by decide) (ble rfl) [some (.ref m), some (.int (nI k)), some (.int (nI i)), some (.int code), none, none, none, none, none, none, none] rfl ?_
  intro x C M
  obtain ⟨m0, m1, m2, m3, m4, m5, m6, m7, m8, m9, m10, m11, m12, m13, m14, m15, m16, m17, m18, m19, m20, m21, m22, m23, m24, m25, m26, f2, f3, f4, f6, f7, f8, f9, f10, f11, f12, f13, f14, f16, f17, f18, f19, f20, f21, f22, f23, f24, f25, f26, f32, f33, f34⟩ := id hM
  have hl : ∀ j, j < 16 → I (m + 3) (16 * k + j) = nI (L (16 * k + j)) ∧ L (16 * k + j) < 48 := fun j hj => hL _ (by omega)
  have hli := (hl i hi).2
  generalize eD : rSeq (I (m + 1) k) code (rE I m L k i 7) (nI (nmF (fun j => rE I m L k j 7) (rE I m L k i 7) i 0)) (fun j => rE I m L k j 7) (J m 27) sz = d at M
  refine v_iload_n C 3 dMo_doRow_0 rfl rfl ?_
  refine v_iconst C 2 dMo_doRow_1 (by decide) ?_
  refine v_icmp_ne C 14 dMo_doRow_2 (by decide) (fun c2 => ?_) (fun c2 => ?_)
  · refine v_iload_n C 3 dMo_doRow_14 rfl rfl ?_
    refine v_if_ne C 198 dMo_doRow_15 (by decide) (fun c15 => ?_) (fun c15 => ?_)
    · -- take
      refine v_aload_n C 0 dMo_doRow_198 rfl rfl ?_
      refine v_getiN C cfMo (k := 28) (by assumption) rfl w702 dMo_doRow_199 (hz) ?_
      by_cases h0 : sz = 0
      · subst h0
        refine v_if_ne C 212 dMo_doRow_202 (by decide) (fun h => absurd nI_0 h) (fun _ => ?_)
        refine v_aload_n C 0 dMo_doRow_205 rfl rfl ?_
        refine v_ldc C w862 dMo_doRow_206 ?_
        refine v_puti C cfMo (k := 29) (by assumption) rfl w703 rfl rfl rfl dMo_doRow_208 ?_
        have e : d = (J m 27, nI 0, NOTH) := by rw [← eD]; unfold rSeq; rw [if_neg c2, if_neg c15, if_pos rfl]
        exact v_vret C M dMo_doRow_211 (ble rfl) (ble rfl) (pf_v (by rw [e]; show _ = s2 (s2 I m 28 (nI 0)) m 29 NOTH; rw [← hz, s2_id]; rfl) (by rw [e]; exact (s2_id _ _ _).symm))
      · refine v_if_ne C 212 dMo_doRow_202 (by decide) (fun _ => ?_) (fun h => absurd h (nI_ne0 (by omega) (by omega)))
        have e : d = (if I (m + 1) k = 2 then J m 27 &&& (jshl 15 (4 * (if I (m + 1) k = 2 then nI sz - 1 else 0)) ^^^ (-1)) else jushr (J m 27) 4, nI sz - 1, rE I m L k (ix (thg (J m 27) (if I (m + 1) k = 2 then nI sz - 1 else 0))) 7) := by
          rw [← eD]
          unfold rSeq
          rw [if_neg c2, if_neg c15, if_neg h0]
        refine v_aload_n C 0 dMo_doRow_212 rfl rfl ?_
        refine v_getr C cfMo (k := 2) (by assumption) rfl (by assumption) w676 dMo_doRow_213 ?_
        refine v_iload_n C 1 dMo_doRow_216 rfl rfl ?_
        refine v_ialdN C (q := (k)) (by assumption) (by first | rfl | (simp only [n16I, n2001I, nI_add, pk_mul, nI_1])) (by omega) (by decide) (rfl) dMo_doRow_217 ?_
        refine v_iconst C 2 dMo_doRow_218 (by decide) ?_
        have go : ∀ p : Int32, p = (if I (m + 1) k = 2 then nI sz - 1 else 0) → V x g 0 0 I J 232 [some (.ref m), some (.int (nI k)), some (.int (nI i)), some (.int code), none, none, none, none, none, none, none] [.int p] := by
          intro p ep
          rw [← ep] at e
          obtain ⟨q, hq, eq⟩ := thg_q (J m 27) p
          have hlq := (hl q hq).2
          have e9 : ix (nI q) = q := nI_clamp (by omega)
          refine v_istore C dMo_doRow_232 (ble rfl) rfl ?_
          refine v_aload_n C 0 dMo_doRow_234 rfl rfl ?_
          refine v_aload_n C 0 dMo_doRow_235 rfl rfl ?_
          refine v_getr C cfMo (k := 9) (by assumption) rfl (by assumption) w683 dMo_doRow_236 ?_
          refine v_aload_n C 0 dMo_doRow_239 rfl rfl ?_
          refine v_getr C cfMo (k := 4) (by assumption) rfl (by assumption) w678 dMo_doRow_240 ?_
          refine v_bipush C 16 dMo_doRow_243 (by decide) ?_
          refine v_iload_n C 1 dMo_doRow_245 rfl rfl ?_
          refine v_imul C dMo_doRow_246 ?_
          refine v_aload_n C 0 dMo_doRow_247 rfl rfl ?_
          refine v_getl C cfMo (k := 27) (by assumption) rfl w701 dMo_doRow_248 ?_
          refine v_iload C dMo_doRow_251 rfl ?_
          refine v_cSi C (c_Mo_thing (kl x) (kD x) g I J (J m 27) p) mwMo_thing w872 w871 rfl rfl (ble rfl) (ble rfl) (ble rfl) (ble rfl) (ble rfl) dMo_doRow_253 ?_
          rw [eq]
          refine v_iadd C dMo_doRow_256 ?_
          refine v_ialdN C (q := (16 * k + q)) (by assumption) (by first | rfl | (simp only [n16I, n2001I, nI_add, pk_mul, nI_1])) (by omega) (by decide) ((hl q hq).1) dMo_doRow_257 ?_
          refine v_ialdN C (q := (L (16 * k + q))) (by assumption) (by first | rfl | (simp only [n16I, n2001I, nI_add, pk_mul, nI_1])) (by omega) (by decide) (rfl) dMo_doRow_258 ?_
          refine v_puti C cfMo (k := 29) (by assumption) rfl w703 rfl rfl rfl dMo_doRow_259 ?_
          refine v_aload_n C 0 dMo_doRow_262 rfl rfl ?_
          refine v_aload_n C 0 dMo_doRow_263 rfl rfl ?_
          refine v_getr C cfMo (k := 2) (by assumption) rfl (by assumption) w676 dMo_doRow_264 ?_
          refine v_iload_n C 1 dMo_doRow_267 rfl rfl ?_
          refine v_ialdN C (q := (k)) (by assumption) (by first | rfl | (simp only [n16I, n2001I, nI_add, pk_mul, nI_1])) (by omega) (by decide) ((s2_a (by omega))) dMo_doRow_268 ?_
          refine v_iconst C 2 dMo_doRow_269 (by decide) ?_
          have fin : ∀ w : Int64, w = d.1 → V x g 0 0 (s2 I m 29 (I (m + 7) (L (16 * k + q)))) J 299 [some (.ref m), some (.int (nI k)), some (.int (nI i)), some (.int code), some (.int p), none, none, none, none, none, none] [.long w, .ref m] := by
            intro w ew
            refine v_putl C cfMo (k := 27) (by assumption) rfl w701 rfl rfl rfl dMo_doRow_299 ?_
            refine v_aload_n C 0 dMo_doRow_302 rfl rfl ?_
            refine v_dup C dMo_doRow_303 rfl ?_
            refine v_getiN C cfMo (k := 28) (by assumption) rfl w702 dMo_doRow_304 ((s2_k (by decide)).trans hz) ?_
            refine v_iconst C 1 dMo_doRow_307 (by decide) ?_
            refine v_isub C dMo_doRow_308 ?_
            refine v_puti C cfMo (k := 28) (by assumption) rfl w702 rfl rfl rfl dMo_doRow_309 ?_
            refine v_vret C M dMo_doRow_312 (ble rfl) (ble rfl) (pf_v ?_ (by rw [ew]))
            rw [s2_comm _ _ _ _ _ _ (by decide), e]
            show _ = s2 (s2 I m 28 (nI sz - 1)) m 29 (rE I m L k (ix (thg (J m 27) p)) 7)
            rw [eq, e9]
          refine v_icmp_ne C 293 dMo_doRow_270 (by decide) (fun c270 => ?_) (fun c270 => ?_)
          · refine v_aload_n C 0 dMo_doRow_293 rfl rfl ?_
            refine v_getl C cfMo (k := 27) (by assumption) rfl w701 dMo_doRow_294 ?_
            refine v_iconst C 4 dMo_doRow_297 (by decide) ?_
            refine v_lushr C dMo_doRow_298 ?_
            exact fin _ (by rw [e]; show _ = (if _ then _ else _); rw [if_neg c270]; rfl)
          · refine v_aload_n C 0 dMo_doRow_273 rfl rfl ?_
            refine v_getl C cfMo (k := 27) (by assumption) rfl w701 dMo_doRow_274 ?_
            refine v_ldc2 C w874 dMo_doRow_277 ?_
            refine v_iconst C 4 dMo_doRow_280 (by decide) ?_
            refine v_iload C dMo_doRow_281 rfl ?_
            refine v_imul C dMo_doRow_283 ?_
            refine v_lshl C dMo_doRow_284 ?_
            refine v_ldc2 C w856 dMo_doRow_285 ?_
            refine v_lxor C dMo_doRow_288 ?_
            refine v_land C dMo_doRow_289 ?_
            refine v_goto C 299 dMo_doRow_290 (by decide) ?_
            exact fin _ (by rw [e]; show _ = (if _ then _ else _); rw [if_pos c270]; rfl)
        refine v_icmp_ne C 231 dMo_doRow_219 (by decide) (fun c219 => ?_) (fun c219 => ?_)
        · refine v_iconst C 0 dMo_doRow_231 (by decide) ?_
          exact go 0 (by rw [if_neg c219])
        · refine v_aload_n C 0 dMo_doRow_222 rfl rfl ?_
          refine v_getiN C cfMo (k := 28) (by assumption) rfl w702 dMo_doRow_223 (hz) ?_
          refine v_iconst C 1 dMo_doRow_226 (by decide) ?_
          refine v_isub C dMo_doRow_227 ?_
          refine v_goto C 232 dMo_doRow_228 (by decide) ?_
          exact go _ (by rw [if_pos c219])
    · -- put
      refine v_aload_n C 0 dMo_doRow_18 rfl rfl ?_
      refine v_getiN C cfMo (k := 28) (by assumption) rfl w702 dMo_doRow_19 (hz) ?_
      refine v_istore C dMo_doRow_22 (ble rfl) rfl ?_
      refine v_aload_n C 0 dMo_doRow_24 rfl rfl ?_
      refine v_iload_n C 1 dMo_doRow_25 rfl rfl ?_
      refine v_iload_n C 2 dMo_doRow_26 rfl rfl ?_
      refine v_cVi C (c_Mo_likeFirst (kl x) (kD x) g I J hM hL hk hi) mwMo_likeFirst cfMo (by assumption) w854 ws33 w852 rfl rfl (ble rfl) (ble rfl) (ble rfl) (ble rfl) (ble rfl) dMo_doRow_27 ?_
      refine v_istore C dMo_doRow_30 (ble rfl) rfl ?_
      refine v_aload_n C 0 dMo_doRow_32 rfl rfl ?_
      refine v_getr C cfMo (k := 9) (by assumption) rfl (by assumption) w683 dMo_doRow_33 ?_
      refine v_aload_n C 0 dMo_doRow_36 rfl rfl ?_
      refine v_getr C cfMo (k := 4) (by assumption) rfl (by assumption) w678 dMo_doRow_37 ?_
      refine v_bipush C 16 dMo_doRow_40 (by decide) ?_
      refine v_iload_n C 1 dMo_doRow_42 rfl rfl ?_
      refine v_imul C dMo_doRow_43 ?_
      refine v_iload_n C 2 dMo_doRow_44 rfl rfl ?_
      refine v_iadd C dMo_doRow_45 ?_
      refine v_ialdN C (q := (16 * k + i)) (by assumption) (by first | rfl | (simp only [n16I, n2001I, nI_add, pk_mul, nI_1])) (by omega) (by decide) ((hl i hi).1) dMo_doRow_46 ?_
      refine v_ialdN C (q := (L (16 * k + i))) (by assumption) (by first | rfl | (simp only [n16I, n2001I, nI_add, pk_mul, nI_1])) (by omega) (by decide) (rfl) dMo_doRow_47 ?_
      refine v_istore C dMo_doRow_48 (ble rfl) rfl ?_
      generalize en : nI (nmF (fun j => rE I m L k j 7) (rE I m L k i 7) i 0) = nm at eD ⊢
      have tail : ∀ p : Nat, p = (if I (m + 1) k = 4 then rplc (fun j => rE I m L k j 7) (rE I m L k i 7) (J m 27) sz else sz) → V x g 0 0 I J 102 [some (.ref m), some (.int (nI k)), some (.int (nI i)), some (.int code), some (.int (nI p)), some (.int nm), some (.int (I (m + 7) (L (16 * k + i)))), none, none, none, none] [] := by
        intro p ep
        have e : d = (rins (J m 27) (nI p) (nI sz) nm, nI sz + 1, 0) := by
          rw [← eD]
          unfold rSeq
          rw [if_neg c2, if_pos c15, ← ep]
        refine v_iload C dMo_doRow_102 rfl ?_
        have last : ∀ low high : Int64, low = (if nI p = 0 then 0 else jushr (jshl (J m 27) (64 - 4 * nI p)) (64 - 4 * nI p)) → high = (if nI p = nI sz then 0 else jshl (jushr (J m 27) (4 * nI p)) (4 * nI p + 4)) → V x g 0 0 I J 162 [some (.ref m), some (.int (nI k)), some (.int (nI i)), some (.int code), some (.int (nI p)), some (.int nm), some (.int (I (m + 7) (L (16 * k + i)))), some (.long low), none, none, none] [.long high] := by
          intro low high e1 e2
          refine v_lstore C dMo_doRow_162 (ble rfl) rfl ?_
          refine v_aload_n C 0 dMo_doRow_164 rfl rfl ?_
          refine v_lload C dMo_doRow_165 rfl ?_
          refine v_iload C dMo_doRow_167 rfl ?_
          refine v_i2l C dMo_doRow_169 ?_
          refine v_iconst C 4 dMo_doRow_170 (by decide) ?_
          refine v_iload C dMo_doRow_171 rfl ?_
          refine v_imul C dMo_doRow_173 ?_
          refine v_lshl C dMo_doRow_174 ?_
          refine v_lor C dMo_doRow_175 ?_
          refine v_lload C dMo_doRow_176 rfl ?_
          refine v_lor C dMo_doRow_178 ?_
          refine v_putl C cfMo (k := 27) (by assumption) rfl w701 rfl rfl rfl dMo_doRow_179 ?_
          refine v_aload_n C 0 dMo_doRow_182 rfl rfl ?_
          refine v_dup C dMo_doRow_183 rfl ?_
          refine v_getiN C cfMo (k := 28) (by assumption) rfl w702 dMo_doRow_184 (hz) ?_
          refine v_iconst C 1 dMo_doRow_187 (by decide) ?_
          refine v_iadd C dMo_doRow_188 ?_
          refine v_puti C cfMo (k := 28) (by assumption) rfl w702 rfl rfl rfl dMo_doRow_189 ?_
          refine v_aload_n C 0 dMo_doRow_192 rfl rfl ?_
          refine v_iconst C 0 dMo_doRow_193 (by decide) ?_
          refine v_puti C cfMo (k := 29) (by assumption) rfl w703 rfl rfl rfl dMo_doRow_194 ?_
          refine v_vret C M dMo_doRow_197 (ble rfl) (ble rfl) (pf_v (by rw [e]) ?_)
          rw [e]
          show _ = s2 J m 27 (rins (J m 27) (nI p) (nI sz) nm)
          unfold rins
          rw [← e1, ← e2]
          rfl
        have hi2 : ∀ low : Int64, low = (if nI p = 0 then 0 else jushr (jshl (J m 27) (64 - 4 * nI p)) (64 - 4 * nI p)) → V x g 0 0 I J 131 [some (.ref m), some (.int (nI k)), some (.int (nI i)), some (.int code), some (.int (nI p)), some (.int nm), some (.int (I (m + 7) (L (16 * k + i)))), none, none, none, none] [.long low] := by
          intro low e1
          refine v_lstore C dMo_doRow_131 (ble rfl) rfl ?_
          refine v_iload C dMo_doRow_133 rfl ?_
          refine v_aload_n C 0 dMo_doRow_135 rfl rfl ?_
          refine v_getiN C cfMo (k := 28) (by assumption) rfl w702 dMo_doRow_136 (hz) ?_
          refine v_icmp_ne C 146 dMo_doRow_139 (by decide) (fun c139 => ?_) (fun c139 => ?_)
          · refine v_aload_n C 0 dMo_doRow_146 rfl rfl ?_
            refine v_getl C cfMo (k := 27) (by assumption) rfl w701 dMo_doRow_147 ?_
            refine v_iconst C 4 dMo_doRow_150 (by decide) ?_
            refine v_iload C dMo_doRow_151 rfl ?_
            refine v_imul C dMo_doRow_153 ?_
            refine v_lushr C dMo_doRow_154 ?_
            refine v_iconst C 4 dMo_doRow_155 (by decide) ?_
            refine v_iload C dMo_doRow_156 rfl ?_
            refine v_imul C dMo_doRow_158 ?_
            refine v_iconst C 4 dMo_doRow_159 (by decide) ?_
            refine v_iadd C dMo_doRow_160 ?_
            refine v_lshl C dMo_doRow_161 ?_
            exact last low _ e1 (by rw [if_neg c139]; rfl)
          · refine v_lconst C 0 dMo_doRow_142 (by decide) ?_
            refine v_goto C 162 dMo_doRow_143 (by decide) ?_
            exact last low _ e1 (by rw [if_pos c139])
        refine v_if_ne C 111 dMo_doRow_104 (by decide) (fun c104 => ?_) (fun c104 => ?_)
        · refine v_aload_n C 0 dMo_doRow_111 rfl rfl ?_
          refine v_getl C cfMo (k := 27) (by assumption) rfl w701 dMo_doRow_112 ?_
          refine v_bipush C 64 dMo_doRow_115 (by decide) ?_
          refine v_iconst C 4 dMo_doRow_117 (by decide) ?_
          refine v_iload C dMo_doRow_118 rfl ?_
          refine v_imul C dMo_doRow_120 ?_
          refine v_isub C dMo_doRow_121 ?_
          refine v_lshl C dMo_doRow_122 ?_
          refine v_bipush C 64 dMo_doRow_123 (by decide) ?_
          refine v_iconst C 4 dMo_doRow_125 (by decide) ?_
          refine v_iload C dMo_doRow_126 rfl ?_
          refine v_imul C dMo_doRow_128 ?_
          refine v_isub C dMo_doRow_129 ?_
          refine v_lushr C dMo_doRow_130 ?_
          exact hi2 _ (by rw [if_neg c104]; rfl)
        · refine v_lconst C 0 dMo_doRow_107 (by decide) ?_
          refine v_goto C 131 dMo_doRow_108 (by decide) ?_
          exact hi2 _ (by rw [if_pos c104])
      have loop : ∀ p : Nat, p ≤ 16 → rplc (fun j => rE I m L k j 7) (rE I m L k i 7) (J m 27) p = rplc (fun j => rE I m L k j 7) (rE I m L k i 7) (J m 27) sz → (I (m + 1) k ≠ 4 → p = sz) → V x g 0 0 I J 50 [some (.ref m), some (.int (nI k)), some (.int (nI i)), some (.int code), some (.int (nI p)), some (.int nm), some (.int (I (m + 7) (L (16 * k + i)))), none, none, none, none] [] := by
        intro p
        induction p with
        | zero =>
          intro h0 h1 h2
          refine v_aload_n C 0 dMo_doRow_50 rfl rfl ?_
          refine v_getr C cfMo (k := 2) (by assumption) rfl (by assumption) w676 dMo_doRow_51 ?_
          refine v_iload_n C 1 dMo_doRow_54 rfl rfl ?_
          refine v_ialdN C (q := (k)) (by assumption) (by first | rfl | (simp only [n16I, n2001I, nI_add, pk_mul, nI_1])) (by omega) (by decide) (rfl) dMo_doRow_55 ?_
          refine v_iconst C 4 dMo_doRow_56 (by decide) ?_
          refine v_icmp_ne C 102 dMo_doRow_57 (by decide) (fun c57 => ?_) (fun c57 => ?_)
          · exact tail 0 (by rw [if_neg c57]; exact h2 c57)
          · refine v_iload C dMo_doRow_60 rfl ?_
            refine v_if_le C 102 dMo_doRow_62 (by decide) (fun _ => ?_) (fun h => absurd (by decide) h)
            exact tail 0 (by rw [if_pos c57, ← h1]; rfl)
        | succ p ih =>
          intro h0 h1 h2
          refine v_aload_n C 0 dMo_doRow_50 rfl rfl ?_
          refine v_getr C cfMo (k := 2) (by assumption) rfl (by assumption) w676 dMo_doRow_51 ?_
          refine v_iload_n C 1 dMo_doRow_54 rfl rfl ?_
          refine v_ialdN C (q := (k)) (by assumption) (by first | rfl | (simp only [n16I, n2001I, nI_add, pk_mul, nI_1])) (by omega) (by decide) (rfl) dMo_doRow_55 ?_
          refine v_iconst C 4 dMo_doRow_56 (by decide) ?_
          refine v_icmp_ne C 102 dMo_doRow_57 (by decide) (fun c57 => ?_) (fun c57 => ?_)
          · exact tail (p + 1) (by rw [if_neg c57]; exact h2 c57)
          · refine v_iload C dMo_doRow_60 rfl ?_
            refine v_if_le C 102 dMo_doRow_62 (by decide) (fun h => absurd h (nI_nle (by omega) (by omega))) (fun _ => ?_)
            obtain ⟨q, hq, eq⟩ := thg_q (J m 27) (nI p)
            have hlq := (hl q hq).2
            have e9 : ix (nI q) = q := nI_clamp (by omega)
            refine v_aload_n C 0 dMo_doRow_65 rfl rfl ?_
            refine v_getr C cfMo (k := 9) (by assumption) rfl (by assumption) w683 dMo_doRow_66 ?_
            refine v_aload_n C 0 dMo_doRow_69 rfl rfl ?_
            refine v_getr C cfMo (k := 4) (by assumption) rfl (by assumption) w678 dMo_doRow_70 ?_
            refine v_bipush C 16 dMo_doRow_73 (by decide) ?_
            refine v_iload_n C 1 dMo_doRow_75 rfl rfl ?_
            refine v_imul C dMo_doRow_76 ?_
            refine v_aload_n C 0 dMo_doRow_77 rfl rfl ?_
            refine v_getl C cfMo (k := 27) (by assumption) rfl w701 dMo_doRow_78 ?_
            refine v_iload C dMo_doRow_81 rfl ?_
            refine v_iconst C 1 dMo_doRow_83 (by decide) ?_
            refine v_isubN C dMo_doRow_84 ((nI_pred p)) ?_
            refine v_cSi C (c_Mo_thing (kl x) (kD x) g I J (J m 27) (nI p)) mwMo_thing w872 w871 rfl rfl (ble rfl) (ble rfl) (ble rfl) (ble rfl) (ble rfl) dMo_doRow_85 ?_
            rw [eq]
            refine v_iadd C dMo_doRow_88 ?_
            refine v_ialdN C (q := (16 * k + q)) (by assumption) (by first | rfl | (simp only [n16I, n2001I, nI_add, pk_mul, nI_1])) (by omega) (by decide) ((hl q hq).1) dMo_doRow_89 ?_
            refine v_ialdN C (q := (L (16 * k + q))) (by assumption) (by first | rfl | (simp only [n16I, n2001I, nI_add, pk_mul, nI_1])) (by omega) (by decide) (rfl) dMo_doRow_90 ?_
            refine v_iload C dMo_doRow_91 rfl ?_
            refine v_icmp_le C 102 dMo_doRow_93 (by decide) (fun c93 => ?_) (fun c93 => ?_)
            · refine tail (p + 1) ?_
              rw [if_pos c57, ← h1]
              simp only [rplc]
              rw [eq, e9, if_neg (Int32.not_lt.mpr c93)]
            · refine v_iinc C (nI p) dMo_doRow_96 rfl (pk_m1 p) (ble rfl) rfl ?_
              refine v_goto C 50 dMo_doRow_99 (by decide) ?_
              refine ih (by omega) ?_ (fun h => absurd c57 h)
              rw [← h1]
              simp only [rplc]
              rw [eq, e9, if_pos (Int32.not_le.mp c93)]
      exact loop sz hz2 rfl (fun _ => rfl)
  · refine v_aload_n C 0 dMo_doRow_5 rfl rfl ?_
    refine v_aload_n C 0 dMo_doRow_6 rfl rfl ?_
    refine v_getiN C cfMo (k := 28) (by assumption) rfl w702 dMo_doRow_7 (hz) ?_
    refine v_puti C cfMo (k := 29) (by assumption) rfl w703 rfl rfl rfl dMo_doRow_10 ?_
    have e : d = (J m 27, nI sz, nI sz) := by rw [← eD]; unfold rSeq; rw [if_pos c2]
    exact v_vret C M dMo_doRow_13 (ble rfl) (ble rfl) (pf_v (by rw [e]; show _ = s2 (s2 I m 28 (nI sz)) m 29 (nI sz); rw [← hz, s2_id]) (by rw [e]; exact (s2_id _ _ _).symm))
/-- what doIt() does: state, things, told -/
def rchg (R : Nat → Nat → Int32) (kind : Int32) (i : Nat) (w : Int64) (sz : Nat) : Int64 × Int32 × Int32 :=
  if kind = 0 then ((rReg (R i 6) (R i 7) (R i 8) w).1, nI sz, (rReg (R i 6) (R i 7) (R i 8) w).2)
  else if kind = 3 then ((chSet (R i 6) (nI (nmF (fun j => R j 7) (R i 7) i 0)) w).1, nI sz, (chSet (R i 6) (nI (nmF (fun j => R j 7) (R i 7) i 0)) w).2)
  else if kind = 5 then ((rMap (R i 6) (R i 7) (R i 8) (nI (nmF (fun j => R j 8) (R i 8) i 0)) (fun j => R j 8) w).1, nI sz, (rMap (R i 6) (R i 7) (R i 8) (nI (nmF (fun j => R j 8) (R i 8) i 0)) (fun j => R j 8) w).2)
  else rSeq kind (R i 6) (R i 7) (nI (nmF (fun j => R j 7) (R i 7) i 0)) (fun j => R j 7) w sz
/-- a map's word: no field is more than 16 -/
def MapOK (kind : Int32) (w : Int64) : Prop := kind = 5 → ∀ a : Int32, ∃ f, f ≤ 16 ∧ rmH a w = nI f
def jis (w k : Int32) : Int32 := w >>> (k &&& 31)
theorem rE_s2 (I : MI) (m : Nat) (L : Nat → Nat) (k q : Nat) (v : Int32) (i f : Nat) (hf : f ≠ 0) : rE (s2 I m q v) m L k i f = rE I m L k i f := by
  show s2 I m q v (m + f) _ = _
  rw [s2_a (by omega)]
theorem LsOK.s2 {I : MI} {m : Nat} {L : Nat → Nat} (h : LsOK I m L) (q : Nat) (v : Int32) : LsOK (s2 I m q v) m L := fun j hj => by rw [s2_a (by omega)]; exact h j hj
set_option maxHeartbeats 2000000 in
theorem c_Mo_doIt (l : Launch) (D : va_G) (g : GM) (I : MI) (J : MJ) {m k i p sz : Nat} {L : Nat → Nat} (hM : MoAt g m) (hL : LsOK I m L) (hk : k < 6) (hi : i < 16) (hp : p < 14007) (hz : jis (I (m + 13) p) 16 = nI sz) (hz2 : sz ≤ 16) (hw : MapOK (I (m + 1) k) (J (m + 14) p)) : Ct l yMo_doIt bMo_doIt 5 none (rmN 2 53) D [.ref m, .int (nI k), .int (nI i), .int (nI p)] g I J (PF none g (s2 (s2 I m 28 (rchg (rE I m L k) (I (m + 1) k) i (J (m + 14) p) sz).2.1) m 29 (rchg (rE I m L k) (I (m + 1) k) i (J (m + 14) p) sz).2.2) (s2 J m 27 (rchg (rE I m L k) (I (m + 1) k) i (J (m + 14) p) sz).1)) := by
  refine Ct.of (by decide) (ble rfl) [some (.ref m), some (.int (nI k)), some (.int (nI i)), some (.int (nI p)), none] rfl ?_
  intro x C M
  obtain ⟨m0, m1, m2, m3, m4, m5, m6, m7, m8, m9, m10, m11, m12, m13, m14, m15, m16, m17, m18, m19, m20, m21, m22, m23, m24, m25, m26, f2, f3, f4, f6, f7, f8, f9, f10, f11, f12, f13, f14, f16, f17, f18, f19, f20, f21, f22, f23, f24, f25, f26, f32, f33, f34⟩ := id hM
  have hl : ∀ j, j < 16 → I (m + 3) (16 * k + j) = nI (L (16 * k + j)) ∧ L (16 * k + j) < 48 := fun j hj => hL _ (by omega)
  have hli := (hl i hi).2
  generalize eD : rchg (rE I m L k) (I (m + 1) k) i (J (m + 14) p) sz = d at M
  refine v_aload_n C 0 dMo_doIt_0 rfl rfl ?_
  refine v_aload_n C 0 dMo_doIt_1 rfl rfl ?_
  refine v_getr C cfMo (k := 17) (by assumption) rfl (by assumption) w691 dMo_doIt_2 ?_
  refine v_iload_n C 3 dMo_doIt_5 rfl rfl ?_
  refine v_laldN C (q := (p)) (by assumption) (by first | rfl | (simp only [n16I, n2001I, nI_add, pk_mul, nI_1])) (by omega) (by decide) (rfl) dMo_doIt_6 ?_
  refine v_putl C cfMo (k := 27) (by assumption) rfl w701 rfl rfl rfl dMo_doIt_7 ?_
  refine v_aload_n C 0 dMo_doIt_10 rfl rfl ?_
  refine v_aload_n C 0 dMo_doIt_11 rfl rfl ?_
  refine v_getr C cfMo (k := 16) (by assumption) rfl (by assumption) w690 dMo_doIt_12 ?_
  refine v_iload_n C 3 dMo_doIt_15 rfl rfl ?_
  refine v_ialdN C (q := (p)) (by assumption) (by first | rfl | (simp only [n16I, n2001I, nI_add, pk_mul, nI_1])) (by omega) (by decide) (rfl) dMo_doIt_16 ?_
  refine v_bipush C 16 dMo_doIt_17 (by decide) ?_
  refine v_ishrN C dMo_doIt_19 (hz) ?_
  refine v_puti C cfMo (k := 28) (by assumption) rfl w702 rfl rfl rfl dMo_doIt_20 ?_
  generalize eI : s2 I m 28 (nI sz) = I1
  have hL1 : LsOK I1 m L := by rw [← eI]; exact hL.s2 28 _
  have o1 : ∀ b, b ≠ m → I1 b = I b := fun b hb => by rw [← eI, s2_off hb]
  have eR : ∀ j f, f ≠ 0 → rE I1 m L k j f = rE I m L k j f := fun j f hf => by rw [← eI]; exact rE_s2 I m L k 28 _ j f hf
  have eN : ∀ f, f ≠ 0 → (fun j => rE I1 m L k j f) = fun j => rE I m L k j f := fun f hf => funext fun j => eR j f hf
  have k1 : I1 (m + 1) k = I (m + 1) k := by rw [o1 _ (by omega)]
  have fin : ∀ (I2 : MI) (J2 : MJ), I2 = s2 I1 m 29 d.2.2 → d.2.1 = nI sz → J2 = s2 (s2 J m 27 (J (m + 14) p)) m 27 d.1 → V x g 0 0 I2 J2 138 [some (.ref m), some (.int (nI k)), some (.int (nI i)), some (.int (nI p)), some (.int (nI (L (16 * k + i))))] [] := by
    intro I2 J2 e1 e2 e3
    exact v_vret C M dMo_doIt_138 (ble rfl) (ble rfl) (pf_v (by rw [e1, e2, ← eI]) (by rw [e3, s2_s2]))
  refine v_aload_n C 0 dMo_doIt_23 rfl rfl ?_
  refine v_getr C cfMo (k := 4) (by assumption) rfl (by assumption) w678 dMo_doIt_24 ?_
  refine v_bipush C 16 dMo_doIt_27 (by decide) ?_
  refine v_iload_n C 1 dMo_doIt_29 rfl rfl ?_
  refine v_imul C dMo_doIt_30 ?_
  refine v_iload_n C 2 dMo_doIt_31 rfl rfl ?_
  refine v_iadd C dMo_doIt_32 ?_
  refine v_ialdN C (q := (16 * k + i)) (by assumption) (by first | rfl | (simp only [n16I, n2001I, nI_add, pk_mul, nI_1])) (by omega) (by decide) ((hL1 (16 * k + i) (by omega)).1) dMo_doIt_33 ?_
  refine v_istore C dMo_doIt_34 (ble rfl) rfl ?_
  refine v_aload_n C 0 dMo_doIt_36 rfl rfl ?_
  refine v_getr C cfMo (k := 2) (by assumption) rfl (by assumption) w676 dMo_doIt_37 ?_
  refine v_iload_n C 1 dMo_doIt_40 rfl rfl ?_
  refine v_ialdN C (q := (k)) (by assumption) (by first | rfl | (simp only [n16I, n2001I, nI_add, pk_mul, nI_1])) (by omega) (by decide) (k1) dMo_doIt_41 ?_
  refine v_if_ne C 73 dMo_doIt_42 (by decide) (fun c42 => ?_) (fun c42 => ?_)
  · refine v_aload_n C 0 dMo_doIt_73 rfl rfl ?_
    refine v_getr C cfMo (k := 2) (by assumption) rfl (by assumption) w676 dMo_doIt_74 ?_
    refine v_iload_n C 1 dMo_doIt_77 rfl rfl ?_
    refine v_ialdN C (q := (k)) (by assumption) (by first | rfl | (simp only [n16I, n2001I, nI_add, pk_mul, nI_1])) (by omega) (by decide) (k1) dMo_doIt_78 ?_
    refine v_iconst C 3 dMo_doIt_79 (by decide) ?_
    refine v_icmp_ne C 99 dMo_doIt_80 (by decide) (fun c80 => ?_) (fun c80 => ?_)
    · refine v_aload_n C 0 dMo_doIt_99 rfl rfl ?_
      refine v_getr C cfMo (k := 2) (by assumption) rfl (by assumption) w676 dMo_doIt_100 ?_
      refine v_iload_n C 1 dMo_doIt_103 rfl rfl ?_
      refine v_ialdN C (q := (k)) (by assumption) (by first | rfl | (simp only [n16I, n2001I, nI_add, pk_mul, nI_1])) (by omega) (by decide) (k1) dMo_doIt_104 ?_
      refine v_iconst C 5 dMo_doIt_105 (by decide) ?_
      refine v_icmp_ne C 125 dMo_doIt_106 (by decide) (fun c106 => ?_) (fun c106 => ?_)
      · refine v_aload_n C 0 dMo_doIt_125 rfl rfl ?_
        refine v_iload_n C 1 dMo_doIt_126 rfl rfl ?_
        refine v_iload_n C 2 dMo_doIt_127 rfl rfl ?_
        refine v_aload_n C 0 dMo_doIt_128 rfl rfl ?_
        refine v_getr C cfMo (k := 8) (by assumption) rfl (by assumption) w682 dMo_doIt_129 ?_
        refine v_iload C dMo_doIt_132 rfl ?_
        refine v_ialdN C (q := (L (16 * k + i))) (by assumption) (by first | rfl | (simp only [n16I, n2001I, nI_add, pk_mul, nI_1])) (by omega) (by decide) ((congrFun (o1 _ (by omega)) _)) dMo_doIt_134 ?_
        refine v_cVv C (c_Mo_doRow (kl x) (kD x) g I1 _ _ hM hL1 hk hi (by rw [← eI, s2_self]) hz2) mwMo_doRow cfMo (by assumption) w869 ws36 w867 rfl rfl (ble rfl) (ble rfl) (ble rfl) (ble rfl) (ble rfl) dMo_doIt_135 ?_
        rw [k1, eR i 7 (by decide), eN 7 (by decide), s2_self]
        have e : rSeq (I (m + 1) k) (I (m + 6) (L (16 * k + i))) (rE I m L k i 7) (nI (nmF (fun j => rE I m L k j 7) (rE I m L k i 7) i 0)) (fun j => rE I m L k j 7) (J (m + 14) p) sz = d := by
          rw [← eD]
          unfold rchg
          rw [if_neg c42, if_neg c80, if_neg c106]
        rw [e]
        exact v_vret C M dMo_doIt_138 (ble rfl) (ble rfl) (pf_v (by rw [← eI, s2_s2]) (by rw [s2_s2]))
      · refine v_aload_n C 0 dMo_doIt_109 rfl rfl ?_
        refine v_iload_n C 1 dMo_doIt_110 rfl rfl ?_
        refine v_iload_n C 2 dMo_doIt_111 rfl rfl ?_
        refine v_aload_n C 0 dMo_doIt_112 rfl rfl ?_
        refine v_getr C cfMo (k := 8) (by assumption) rfl (by assumption) w682 dMo_doIt_113 ?_
        refine v_iload C dMo_doIt_116 rfl ?_
        refine v_ialdN C (q := (L (16 * k + i))) (by assumption) (by first | rfl | (simp only [n16I, n2001I, nI_add, pk_mul, nI_1])) (by omega) (by decide) ((congrFun (o1 _ (by omega)) _)) dMo_doIt_118 ?_
        obtain ⟨f, hf, ef⟩ := hw c106 (rE I m L k i 7)
        refine v_cVv C (c_Mo_doMap (kl x) (kD x) g I1 _ _ hM hL1 hk hi (f := f) (by rw [eR i 7 (by decide), s2_self]; exact ef) hf) mwMo_doMap cfMo (by assumption) w859 ws34 w857 rfl rfl (ble rfl) (ble rfl) (ble rfl) (ble rfl) (ble rfl) dMo_doIt_119 ?_
        refine v_goto C 138 dMo_doIt_122 (by decide) ?_
        have e : d = ((rMap (rE I m L k i 6) (rE I m L k i 7) (rE I m L k i 8) (nI (nmF (fun j => rE I m L k j 8) (rE I m L k i 8) i 0)) (fun j => rE I m L k j 8) (J (m + 14) p)).1, nI sz, (rMap (rE I m L k i 6) (rE I m L k i 7) (rE I m L k i 8) (nI (nmF (fun j => rE I m L k j 8) (rE I m L k i 8) i 0)) (fun j => rE I m L k j 8) (J (m + 14) p)).2) := by
          rw [← eD]
          unfold rchg
          rw [if_neg c42, if_neg c80, if_pos c106]
        rw [eR i 7 (by decide), eR i 8 (by decide), eN 8 (by decide), s2_self]
        exact fin _ _ (by rw [e]) (by rw [e]) (by rw [e])
    · refine v_aload_n C 0 dMo_doIt_83 rfl rfl ?_
      refine v_iload_n C 1 dMo_doIt_84 rfl rfl ?_
      refine v_iload_n C 2 dMo_doIt_85 rfl rfl ?_
      refine v_aload_n C 0 dMo_doIt_86 rfl rfl ?_
      refine v_getr C cfMo (k := 8) (by assumption) rfl (by assumption) w682 dMo_doIt_87 ?_
      refine v_iload C dMo_doIt_90 rfl ?_
      refine v_ialdN C (q := (L (16 * k + i))) (by assumption) (by first | rfl | (simp only [n16I, n2001I, nI_add, pk_mul, nI_1])) (by omega) (by decide) ((congrFun (o1 _ (by omega)) _)) dMo_doIt_92 ?_
      refine v_cVv C (c_Mo_doSet (kl x) (kD x) g I1 _ _ hM hL1 hk hi) mwMo_doSet cfMo (by assumption) w850 ws32 w848 rfl rfl (ble rfl) (ble rfl) (ble rfl) (ble rfl) (ble rfl) dMo_doIt_93 ?_
      refine v_goto C 138 dMo_doIt_96 (by decide) ?_
      have e : d = ((chSet (rE I m L k i 6) (nI (nmF (fun j => rE I m L k j 7) (rE I m L k i 7) i 0)) (J (m + 14) p)).1, nI sz, (chSet (rE I m L k i 6) (nI (nmF (fun j => rE I m L k j 7) (rE I m L k i 7) i 0)) (J (m + 14) p)).2) := by
        rw [← eD]
        unfold rchg
        rw [if_neg c42, if_pos c80]
      rw [eR i 7 (by decide), eN 7 (by decide), s2_self]
      exact fin _ _ (by rw [e]) (by rw [e]) (by rw [e])
  · refine v_aload_n C 0 dMo_doIt_45 rfl rfl ?_
    refine v_aload_n C 0 dMo_doIt_46 rfl rfl ?_
    refine v_getr C cfMo (k := 8) (by assumption) rfl (by assumption) w682 dMo_doIt_47 ?_
    refine v_iload C dMo_doIt_50 rfl ?_
    refine v_ialdN C (q := (L (16 * k + i))) (by assumption) (by first | rfl | (simp only [n16I, n2001I, nI_add, pk_mul, nI_1])) (by omega) (by decide) ((congrFun (o1 _ (by omega)) _)) dMo_doIt_52 ?_
    refine v_aload_n C 0 dMo_doIt_53 rfl rfl ?_
    refine v_getr C cfMo (k := 9) (by assumption) rfl (by assumption) w683 dMo_doIt_54 ?_
    refine v_iload C dMo_doIt_57 rfl ?_
    refine v_ialdN C (q := (L (16 * k + i))) (by assumption) (by first | rfl | (simp only [n16I, n2001I, nI_add, pk_mul, nI_1])) (by omega) (by decide) ((congrFun (o1 _ (by omega)) _)) dMo_doIt_59 ?_
    refine v_aload_n C 0 dMo_doIt_60 rfl rfl ?_
    refine v_getr C cfMo (k := 10) (by assumption) rfl (by assumption) w684 dMo_doIt_61 ?_
    refine v_iload C dMo_doIt_64 rfl ?_
    refine v_ialdN C (q := (L (16 * k + i))) (by assumption) (by first | rfl | (simp only [n16I, n2001I, nI_add, pk_mul, nI_1])) (by omega) (by decide) ((congrFun (o1 _ (by omega)) _)) dMo_doIt_66 ?_
    refine v_cVv C (c_Mo_doRegister (kl x) (kD x) g I1 _ _ _ _ hM) mwMo_doRegister cfMo (by assumption) w846 ws31 w844 rfl rfl (ble rfl) (ble rfl) (ble rfl) (ble rfl) (ble rfl) dMo_doIt_67 ?_
    refine v_goto C 138 dMo_doIt_70 (by decide) ?_
    have e : d = ((rReg (rE I m L k i 6) (rE I m L k i 7) (rE I m L k i 8) (J (m + 14) p)).1, nI sz, (rReg (rE I m L k i 6) (rE I m L k i 7) (rE I m L k i 8) (J (m + 14) p)).2) := by
      rw [← eD]
      unfold rchg
      rw [if_pos c42]
    rw [s2_self]
    exact fin _ _ (by rw [e]) (by rw [e]) (by rw [e])
