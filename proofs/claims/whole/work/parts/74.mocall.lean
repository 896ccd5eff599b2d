theorem clT_k {I : MI} {m no : Nat} {p k which : Int32} (h : ¬ clW no p k which) (hn : no < 2 ^ 31) : ∃ a b, a < 8 ∧ b < no ∧ p = nI a ∧ k = nI b ∧ ¬ which < 0 := by
  have h1 : ¬ p < 0 := fun q => h (Or.inl q)
  have h2 : p ≤ 7 := Int32.not_lt.mp (fun q => h (Or.inr (Or.inl q)))
  have h3 : ¬ noOb no k := fun q => h (Or.inr (Or.inr (Or.inl q)))
  have h4 : ¬ which < 0 := fun q => h (Or.inr (Or.inr (Or.inr q)))
  obtain ⟨a, a1, a2⟩ := nI_of2 (n := 7) rfl h1 h2
  obtain ⟨b, b1, b2⟩ := nI_of (fun q => h3 (Or.inl q))
  refine ⟨a, b, by omega, ?_, a2, b2, h4⟩
  rcases Nat.lt_or_ge b no with h9 | h9
  · exact h9
  · exact absurd (Or.inr (by rw [b2]; exact nI_le h9 b1)) h3
def calQ (g : GM) (I : MI) (J : MJ) (m no : Nat) (p k which a b : Int32) : Option Value → GM → MI → MJ → Prop := fun v g2 I2 J2 => g2 = g ∧ J2 = J ∧ (clT I m no p k which ≠ 0 ∧ v = some (.int 0) ∧ I2 = s2 I m 0 (clT I m no p k which) ∨ clT I m no p k which = 0 ∧ ∃ pp kk, pp < 8 ∧ kk < no ∧ p = nI pp ∧ k = nI kk ∧ ((I m 5 = 48 ∨ I (m + 2) kk = 16) ∧ v = some (.int (-1)) ∧ I2 = s2 I m 0 0 ∨ ¬ (I m 5 = 48 ∨ I (m + 2) kk = 16) ∧ ∃ q n, q < 48 ∧ n < 16 ∧ I m 5 = nI q ∧ I (m + 2) kk = nI n ∧ v = some (.int (nI q)) ∧ chM m (clM I m q kk n pp which a b) I2))
set_option maxHeartbeats 4000000 in
theorem c_Mo_call (l : Launch) (D : va_G) (g : GM) (I : MI) (J : MJ) {m no q : Nat} {cnt : Nat → Nat} (p k which a b : Int32) (hM : MoAt g m) (hno : I m 1 = nI no) (hno6 : no ≤ 6) (hq : I m 5 = nI q) (hq2 : q ≤ 48) (hcn : ∀ k, k < no → I (m + 2) k = nI (cnt k) ∧ cnt k ≤ 16) : Ct l yMo_call bMo_call 8 (some .int) (rmN 1 21) D [.ref m, .int p, .int k, .int which, .int a, .int b] g I J (calQ g I J m no p k which a b) := by
  refine Ct.of (by decide) (ble rfl) [some (.ref m), some (.int p), some (.int k), some (.int which), some (.int a), some (.int b), none, none] rfl ?_
  intro x C M
  obtain ⟨m0, m1, m2, m3, m4, m5, m6, m7, m8, m9, m10, m11, m12, m13, m14, m15, m16, m17, m18, m19, m20, m21, m22, m23, m24, m25, m26, f2, f3, f4, f6, f7, f8, f9, f10, f11, f12, f13, f14, f16, f17, f18, f19, f20, f21, f22, f23, f24, f25, f26, f32, f33, f34⟩ := id hM
  have bad : ∀ (t : Int32) (z6 : Option Value), t = clT I m no p k which → (t = 1 ∨ t = 2) → V x g 0 0 I J 71 [some (.ref m), some (.int p), some (.int k), some (.int which), some (.int a), some (.int b), z6, none] [.int t, .ref m] := by
    intro t z6 et ht
    refine v_puti C cfMo (k := 0) (by assumption) rfl w674 rfl rfl rfl dMo_call_71 ?_
    refine v_aload_n C 0 dMo_call_74 rfl rfl ?_
    refine v_getiN C cfMo (k := 0) (by assumption) rfl w674 dMo_call_75 ((s2_self _ _ _ _)) ?_
    have h0 : t ≠ 0 := by rcases ht with rfl | rfl <;> decide
    refine v_if_le C 83 dMo_call_78 (by decide) (fun h => absurd h (by rcases ht with rfl | rfl <;> decide)) (fun _ => ?_)
    refine v_iconst C 0 dMo_call_81 (by decide) ?_
    exact v_iret C M dMo_call_82 (ble rfl) (ble rfl) ⟨rfl, rfl, Or.inl ⟨by rw [← et]; exact h0, rfl, by rw [← et]⟩⟩
  have wrong : clW no p k which → V x g 0 0 I J 22 [some (.ref m), some (.int p), some (.int k), some (.int which), some (.int a), some (.int b), none, none] [] := by
    intro hw
    refine v_iconst C 1 dMo_call_22 (by decide) ?_
    refine v_goto C 27 dMo_call_23 (by decide) ?_
    refine v_istore C dMo_call_27 (ble rfl) rfl ?_
    refine v_aload_n C 0 dMo_call_29 rfl rfl ?_
    refine v_iload C dMo_call_30 rfl ?_
    refine v_if_ne C 53 dMo_call_32 (by decide) (fun _ => ?_) (fun h => absurd h (by decide))
    refine v_iconst C 1 dMo_call_53 (by decide) ?_
    refine v_goto C 71 dMo_call_54 (by decide) ?_
    exact bad 1 _ (by unfold clT; rw [if_pos hw]) (Or.inl rfl)
  refine v_iload_n C 1 dMo_call_0 rfl rfl ?_
  refine v_if_lt C 22 dMo_call_1 (by decide) (fun c1 => ?_) (fun c1 => ?_)
  · exact wrong (Or.inl c1)
  · refine v_iload_n C 1 dMo_call_4 rfl rfl ?_
    refine v_bipush C 7 dMo_call_5 (by decide) ?_
    refine v_icmp_gt C 22 dMo_call_7 (by decide) (fun c7 => ?_) (fun c7 => ?_)
    · exact wrong (Or.inr (Or.inl c7))
    · refine v_aload_n C 0 dMo_call_10 rfl rfl ?_
      refine v_iload_n C 2 dMo_call_11 rfl rfl ?_
      refine v_cVi C (c_Mo_noObject (kl x) (kD x) g I J k m0 hno) mwMo_noObject cfMo (by assumption) w794 ws23 w792 rfl rfl (ble rfl) (ble rfl) (ble rfl) (ble rfl) (ble rfl) dMo_call_12 ?_
      by_cases hk : noOb no k
      · rw [if_pos hk]
        refine v_if_ne C 22 dMo_call_15 (by decide) (fun _ => ?_) (fun h => absurd h (by decide))
        exact wrong (Or.inr (Or.inr (Or.inl hk)))
      · rw [if_neg hk]
        refine v_if_ne C 22 dMo_call_15 (by decide) (fun h => absurd rfl h) (fun _ => ?_)
        refine v_iload_n C 3 dMo_call_18 rfl rfl ?_
        refine v_if_ge C 26 dMo_call_19 (by decide) (fun c19 => ?_) (fun c19 => ?_)
        · have hnw : ¬ clW no p k which := by
            rintro (h | h | h | h)
            · exact c1 h
            · exact c7 h
            · exact hk h
            · exact absurd h (Int32.not_lt.mpr c19)
          obtain ⟨pp, kk, hpp, hkk, rfl, rfl, -⟩ := clT_k (I := I) (m := m) hnw (by omega)
          have hk6 : kk < 6 := by omega
          have ekk : ix (nI kk) = kk := nI_clamp (by omega)
          have epp : ix (nI pp) = pp := nI_clamp (by omega)
          have eT : clT I m no (nI pp) (nI kk) which = if (if I (m + 1) kk = 0 then 4 else 2) < which then 1 else if 0 ≤ I (m + 12) pp then 2 else 0 := by
            unfold clT
            rw [if_neg hnw, ekk, epp]
          refine v_iconst C 0 dMo_call_26 (by decide) ?_
          refine v_istore C dMo_call_27 (ble rfl) rfl ?_
          refine v_aload_n C 0 dMo_call_29 rfl rfl ?_
          refine v_iload C dMo_call_30 rfl ?_
          refine v_if_ne C 53 dMo_call_32 (by decide) (fun h => absurd rfl h) (fun _ => ?_)
          refine v_iload_n C 3 dMo_call_35 rfl rfl ?_
          refine v_aload_n C 0 dMo_call_36 rfl rfl ?_
          refine v_getr C cfMo (k := 2) (by assumption) rfl (by assumption) w676 dMo_call_37 ?_
          refine v_iload_n C 2 dMo_call_40 rfl rfl ?_
          refine v_ialdN C (q := (kk)) (by assumption) (by first | rfl | (simp only [n16I, n2001I, nI_add, pk_mul, nI_1])) (by omega) (by decide) (rfl) dMo_call_41 ?_
          have lim : ∀ z : Int32, z = (if I (m + 1) kk = 0 then 4 else 2) → V x g 0 0 I J 50 [some (.ref m), some (.int (nI pp)), some (.int (nI kk)), some (.int which), some (.int a), some (.int b), some (.int 0), none] [.int z, .int which, .ref m] := by
            intro z ez
            refine v_icmp_le C 57 dMo_call_50 (by decide) (fun c50 => ?_) (fun c50 => ?_)
            · rw [ez] at c50
              have hl : ¬ (if I (m + 1) kk = 0 then 4 else 2) < which := Int32.not_lt.mpr c50
              refine v_aload_n C 0 dMo_call_57 rfl rfl ?_
              refine v_getr C cfMo (k := 14) (by assumption) rfl (by assumption) w688 dMo_call_58 ?_
              refine v_iload_n C 1 dMo_call_61 rfl rfl ?_
              refine v_ialdN C (q := (pp)) (by assumption) (by first | rfl | (simp only [n16I, n2001I, nI_add, pk_mul, nI_1])) (by omega) (by decide) (rfl) dMo_call_62 ?_
              refine v_if_lt C 70 dMo_call_63 (by decide) (fun c63 => ?_) (fun c63 => ?_)
              · have eT0 : clT I m no (nI pp) (nI kk) which = 0 := by rw [eT, if_neg hl, if_neg (Int32.not_le.mpr c63)]
                refine v_iconst C 0 dMo_call_70 (by decide) ?_
                refine v_puti C cfMo (k := 0) (by assumption) rfl w674 rfl rfl rfl dMo_call_71 ?_
                refine v_aload_n C 0 dMo_call_74 rfl rfl ?_
                refine v_getiN C cfMo (k := 0) (by assumption) rfl w674 dMo_call_75 ((s2_self _ _ _ _)) ?_
                refine v_if_le C 83 dMo_call_78 (by decide) (fun _ => ?_) (fun h => absurd (by decide) h)
                have ecn := (hcn kk hkk).1
                have ecn2 := (hcn kk hkk).2
                have full : (I m 5 = 48 ∨ I (m + 2) kk = 16) → V x g 0 0 (s2 I m 0 0) J 103 [some (.ref m), some (.int (nI pp)), some (.int (nI kk)), some (.int which), some (.int a), some (.int b), some (.int 0), none] [] := by
                  intro hf
                  refine v_iconst C (-1) dMo_call_103 (by decide) ?_
                  exact v_iret C M dMo_call_104 (ble rfl) (ble rfl) ⟨rfl, rfl, Or.inr ⟨eT0, pp, kk, hpp, hkk, rfl, rfl, Or.inl ⟨hf, rfl, rfl⟩⟩⟩
                refine v_aload_n C 0 dMo_call_83 rfl rfl ?_
                refine v_getiN C cfMo (k := 5) (by assumption) rfl w679 dMo_call_84 ((s2_k (by decide))) ?_
                refine v_bipush C 48 dMo_call_87 (by decide) ?_
                refine v_icmp_eq C 103 dMo_call_89 (by decide) (fun c89 => ?_) (fun c89 => ?_)
                · exact full (Or.inl c89)
                · refine v_aload_n C 0 dMo_call_92 rfl rfl ?_
                  refine v_getr C cfMo (k := 3) (by assumption) rfl (by assumption) w677 dMo_call_93 ?_
                  refine v_iload_n C 2 dMo_call_96 rfl rfl ?_
                  refine v_ialdN C (q := (kk)) (by assumption) (by first | rfl | (simp only [n16I, n2001I, nI_add, pk_mul, nI_1])) (by omega) (by decide) ((s2_a (by omega))) dMo_call_97 ?_
                  refine v_bipush C 16 dMo_call_98 (by decide) ?_
                  refine v_icmp_ne C 105 dMo_call_100 (by decide) (fun c100 => ?_) (fun c100 => ?_)
                  · have hnf : ¬ (I m 5 = 48 ∨ I (m + 2) kk = 16) := by
                      rintro (h | h)
                      · exact c89 h
                      · exact c100 h
                    have hq48 : q < 48 := by
                      rcases Nat.lt_or_ge q 48 with h | h
                      · exact h
                      · exfalso
                        apply c89
                        have e : q = 48 := by omega
                        rw [hq, e]
                        rfl
                    have hn16 : cnt kk < 16 := by
                      rcases Nat.lt_or_ge (cnt kk) 16 with h | h
                      · exact h
                      · exfalso
                        apply c100
                        have e : cnt kk = 16 := by omega
                        rw [ecn, e]
                        rfl
                    have e15 : s2 I m 0 0 m 15 = I m 15 := s2_k (by decide)
                    refine v_aload_n C 0 dMo_call_105 rfl rfl ?_
                    refine v_dup C dMo_call_106 rfl ?_
                    refine v_getiN C cfMo (k := 15) (by assumption) rfl w689 dMo_call_107 (e15) ?_
                    refine v_iconst C 1 dMo_call_110 (by decide) ?_
                    refine v_iadd C dMo_call_111 ?_
                    refine v_puti C cfMo (k := 15) (by assumption) rfl w689 rfl rfl rfl dMo_call_112 ?_
                    refine v_aload_n C 0 dMo_call_115 rfl rfl ?_
                    refine v_getiN C cfMo (k := 5) (by assumption) rfl w679 dMo_call_116 ((show _ = nI q by rw [s2_k (by decide), s2_k (by decide)]; exact hq)) ?_
                    refine v_istore C dMo_call_119 (ble rfl) rfl ?_
                    refine v_aload_n C 0 dMo_call_121 rfl rfl ?_
                    refine v_dup C dMo_call_122 rfl ?_
                    refine v_getiN C cfMo (k := 5) (by assumption) rfl w679 dMo_call_123 ((show _ = nI q by rw [s2_k (by decide), s2_k (by decide)]; exact hq)) ?_
                    refine v_iconst C 1 dMo_call_126 (by decide) ?_
                    refine v_iaddN C dMo_call_127 ((nI_1 q)) ?_
                    refine v_puti C cfMo (k := 5) (by assumption) rfl w679 rfl rfl rfl dMo_call_128 ?_
                    refine v_aload_n C 0 dMo_call_131 rfl rfl ?_
                    refine v_getr C cfMo (k := 6) (by assumption) rfl (by assumption) w680 dMo_call_132 ?_
                    refine v_iload C dMo_call_135 rfl ?_
                    refine v_iload_n C 1 dMo_call_137 rfl rfl ?_
                    refine v_iastN C (q := (q)) (by assumption) (by first | rfl | (simp only [n16I, n2001I, nI_add, pk_mul, nI_1])) (by omega) (by decide) dMo_call_138 ?_
                    refine v_aload_n C 0 dMo_call_139 rfl rfl ?_
                    refine v_getr C cfMo (k := 7) (by assumption) rfl (by assumption) w681 dMo_call_140 ?_
                    refine v_iload C dMo_call_143 rfl ?_
                    refine v_iload_n C 2 dMo_call_145 rfl rfl ?_
                    refine v_iastN C (q := (q)) (by assumption) (by first | rfl | (simp only [n16I, n2001I, nI_add, pk_mul, nI_1])) (by omega) (by decide) dMo_call_146 ?_
                    refine v_aload_n C 0 dMo_call_147 rfl rfl ?_
                    refine v_getr C cfMo (k := 8) (by assumption) rfl (by assumption) w682 dMo_call_148 ?_
                    refine v_iload C dMo_call_151 rfl ?_
                    refine v_iload_n C 3 dMo_call_153 rfl rfl ?_
                    refine v_iastN C (q := (q)) (by assumption) (by first | rfl | (simp only [n16I, n2001I, nI_add, pk_mul, nI_1])) (by omega) (by decide) dMo_call_154 ?_
                    refine v_aload_n C 0 dMo_call_155 rfl rfl ?_
                    refine v_getr C cfMo (k := 9) (by assumption) rfl (by assumption) w683 dMo_call_156 ?_
                    refine v_iload C dMo_call_159 rfl ?_
                    refine v_iload C dMo_call_161 rfl ?_
                    refine v_iastN C (q := (q)) (by assumption) (by first | rfl | (simp only [n16I, n2001I, nI_add, pk_mul, nI_1])) (by omega) (by decide) dMo_call_163 ?_
                    refine v_aload_n C 0 dMo_call_164 rfl rfl ?_
                    refine v_getr C cfMo (k := 10) (by assumption) rfl (by assumption) w684 dMo_call_165 ?_
                    refine v_iload C dMo_call_168 rfl ?_
                    refine v_iload C dMo_call_170 rfl ?_
                    refine v_iastN C (q := (q)) (by assumption) (by first | rfl | (simp only [n16I, n2001I, nI_add, pk_mul, nI_1])) (by omega) (by decide) dMo_call_172 ?_
                    refine v_aload_n C 0 dMo_call_173 rfl rfl ?_
                    refine v_getr C cfMo (k := 12) (by assumption) rfl (by assumption) w686 dMo_call_174 ?_
                    refine v_iload C dMo_call_177 rfl ?_
                    refine v_aload_n C 0 dMo_call_179 rfl rfl ?_
                    refine v_getiN C cfMo (k := 15) (by assumption) rfl w689 dMo_call_180 ((show _ = I m 15 + 1 by rw [s2_a (by omega), s2_a (by omega), s2_a (by omega), s2_a (by omega), s2_a (by omega), s2_k (by decide), s2_self])) ?_
                    refine v_iastN C (q := (q)) (by assumption) (by first | rfl | (simp only [n16I, n2001I, nI_add, pk_mul, nI_1])) (by omega) (by decide) dMo_call_183 ?_
                    refine v_aload_n C 0 dMo_call_184 rfl rfl ?_
                    refine v_getr C cfMo (k := 13) (by assumption) rfl (by assumption) w687 dMo_call_185 ?_
                    refine v_iload C dMo_call_188 rfl ?_
                    refine v_iconst C 0 dMo_call_190 (by decide) ?_
                    refine v_iastN C (q := (q)) (by assumption) (by first | rfl | (simp only [n16I, n2001I, nI_add, pk_mul, nI_1])) (by omega) (by decide) dMo_call_191 ?_
                    refine v_aload_n C 0 dMo_call_192 rfl rfl ?_
                    refine v_getr C cfMo (k := 4) (by assumption) rfl (by assumption) w678 dMo_call_193 ?_
                    refine v_bipush C 16 dMo_call_196 (by decide) ?_
                    refine v_iload_n C 2 dMo_call_198 rfl rfl ?_
                    refine v_imul C dMo_call_199 ?_
                    refine v_aload_n C 0 dMo_call_200 rfl rfl ?_
                    refine v_getr C cfMo (k := 3) (by assumption) rfl (by assumption) w677 dMo_call_201 ?_
                    refine v_iload_n C 2 dMo_call_204 rfl rfl ?_
                    refine v_ialdN C (q := (kk)) (by assumption) (by first | rfl | (simp only [n16I, n2001I, nI_add, pk_mul, nI_1])) (by omega) (by decide) ((show _ = nI (cnt kk) by rw [s2_a (by omega), s2_a (by omega), s2_a (by omega), s2_a (by omega), s2_a (by omega), s2_a (by omega), s2_a (by omega), s2_a (by omega), s2_a (by omega), s2_a (by omega)]; exact ecn)) dMo_call_205 ?_
                    refine v_iadd C dMo_call_206 ?_
                    refine v_iload C dMo_call_207 rfl ?_
                    refine v_iastN C (q := (16 * kk + cnt kk)) (by assumption) (by first | rfl | (simp only [n16I, n2001I, nI_add, pk_mul, nI_1])) (by omega) (by decide) dMo_call_209 ?_
                    refine v_aload_n C 0 dMo_call_210 rfl rfl ?_
                    refine v_getr C cfMo (k := 3) (by assumption) rfl (by assumption) w677 dMo_call_211 ?_
                    refine v_iload_n C 2 dMo_call_214 rfl rfl ?_
                    first | refine v_dup2_11 C dMo_call_215 rfl rfl ?_ | refine v_dup2_2 C dMo_call_215 rfl ?_
                    refine v_ialdN C (q := (kk)) (by assumption) (by first | rfl | (simp only [n16I, n2001I, nI_add, pk_mul, nI_1])) (by omega) (by decide) ((show _ = nI (cnt kk) by rw [s2_a (by omega), s2_a (by omega), s2_a (by omega), s2_a (by omega), s2_a (by omega), s2_a (by omega), s2_a (by omega), s2_a (by omega), s2_a (by omega), s2_a (by omega), s2_a (by omega)]; exact ecn)) dMo_call_216 ?_
                    refine v_iconst C 1 dMo_call_217 (by decide) ?_
                    refine v_iaddN C dMo_call_218 ((nI_1 _)) ?_
                    refine v_iastN C (q := (kk)) (by assumption) (by first | rfl | (simp only [n16I, n2001I, nI_add, pk_mul, nI_1])) (by omega) (by decide) dMo_call_219 ?_
                    refine v_aload_n C 0 dMo_call_220 rfl rfl ?_
                    refine v_getr C cfMo (k := 14) (by assumption) rfl (by assumption) w688 dMo_call_221 ?_
                    refine v_iload_n C 1 dMo_call_224 rfl rfl ?_
                    refine v_iload C dMo_call_225 rfl ?_
                    refine v_iastN C (q := (pp)) (by assumption) (by first | rfl | (simp only [n16I, n2001I, nI_add, pk_mul, nI_1])) (by omega) (by decide) dMo_call_227 ?_
                    refine v_aload_n C 0 dMo_call_228 rfl rfl ?_
                    refine v_callV C (c_Mo_change (kl x) (kD x) g _ J hM) mwMo_change cfMo (by assumption) w672 ws22 w670 rfl rfl (ble rfl) (ble rfl) (ble rfl) (ble rfl) (ble rfl) dMo_call_229 ?_
                    rintro v g2 I2 J2 ⟨rfl, rfl, rfl, h⟩
                    refine v_iload C dMo_call_232 rfl ?_
                    exact v_iret C M dMo_call_234 (ble rfl) (ble rfl) ⟨rfl, rfl, Or.inr ⟨eT0, pp, kk, hpp, hkk, rfl, rfl, Or.inr ⟨hnf, q, cnt kk, hq48, hn16, hq, ecn, rfl, h⟩⟩⟩
                  · exact full (Or.inr c100)
              · refine v_iconst C 2 dMo_call_66 (by decide) ?_
                refine v_goto C 71 dMo_call_67 (by decide) ?_
                exact bad 2 _ (by rw [eT, if_neg hl, if_pos (Int32.not_lt.mp c63)]) (Or.inr rfl)
            · rw [ez] at c50
              refine v_iconst C 1 dMo_call_53 (by decide) ?_
              refine v_goto C 71 dMo_call_54 (by decide) ?_
              exact bad 1 _ (by rw [eT, if_pos (Int32.not_le.mp c50)]) (Or.inl rfl)
          refine v_if_ne C 49 dMo_call_42 (by decide) (fun c42 => ?_) (fun c42 => ?_)
          · refine v_iconst C 2 dMo_call_49 (by decide) ?_
            exact lim 2 (by rw [if_neg c42])
          · refine v_iconst C 4 dMo_call_45 (by decide) ?_
            refine v_goto C 50 dMo_call_46 (by decide) ?_
            exact lim 4 (by rw [if_pos c42])
        · exact wrong (Or.inr (Or.inr (Or.inr (Int32.not_le.mp c19))))
