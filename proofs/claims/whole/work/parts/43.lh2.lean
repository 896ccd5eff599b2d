theorem c_LH_object_full (l : Launch) (D : va_G) (g : GM) (I : MI) (J : MJ) {a : Nat} (kind : Int32) (hA : LHAt g a) (hk0 : ¬ kind < 0) (hk5 : kind ≤ 5) (hno : I a 11 = 6) : Ct l yLH_object bLH_object 3 (some .int) (rmN 0 0) D [.ref a, .int kind] g I J (PF (some (.int (-1))) g I J) := by
  refine Ct.of (by decide) (ble rfl) [some (.ref a), some (.int kind), none] rfl ?_
  intro x C M
  have a0 := hA.1
  refine v_iload_n C 1 dLH_object_0 rfl rfl ?_
  refine v_if_lt C 9 dLH_object_1 (by decide) (fun h => absurd h hk0) (fun _ => ?_)
  refine v_iload_n C 1 dLH_object_4 rfl rfl ?_
  refine v_iconst C 5 dLH_object_5 (by decide) ?_
  refine v_icmp_le C 19 dLH_object_6 (by decide) (fun _ => ?_) (fun h => absurd hk5 h)
  refine v_aload_n C 0 dLH_object_19 rfl rfl ?_
  refine v_geti C cfLH (k := 11) (by assumption) rfl w122 dLH_object_20 ?_
  rw [hno]
  refine v_bipush C 6 dLH_object_23 (by decide) ?_
  refine v_icmp_lt C 30 dLH_object_25 (by decide) (fun h => absurd h (by decide)) (fun _ => ?_)
  refine v_iconst C (-1) dLH_object_28 (by decide) ?_
  exact v_iret C M dLH_object_29 (ble rfl) (ble rfl) (pf_i rfl rfl rfl)
theorem c_LH_object_old (l : Launch) (D : va_G) (g : GM) (I : MI) (J : MJ) {a no u : Nat} (kind : Int32) (hA : LHAt g a) (hk0 : ¬ kind < 0) (hk5 : kind ≤ 5) (hno : I a 11 = nI no) (hno2 : no < 6) (hb : g.2.1 (a + 1) no = some u) (u0 : g.1 u = (3, 0)) (hau : a + 18 ≤ u) : Ct l yLH_object bLH_object 3 (some .int) (rmN 2 41) D [.ref a, .int kind] g I J (PF (some (.int (nI no))) g (s2 (s2 (begI I u kind) a 10 0) a 11 (nI (no + 1))) J) := by
  refine Ct.of (by decide) (ble rfl) [some (.ref a), some (.int kind), none] rfl ?_
  intro x C M
  obtain ⟨a0, a1, a2, a3, a4, a5, hS, a15, a16, a17, r0, r1, r2, r3, r4, r5, r6, r7, r8⟩ := id hA
  have hkc : (nI no).toNatClampNeg = no := nI_clamp (by omega)
  have hki : vp_in (nI no) 6 := vp_in_nI (by omega) (by decide)
  have hb2 : g.2.1 (a + 1) (nI no).toNatClampNeg = some u := by rw [hkc]; exact hb
  have eb : begI I u kind a = I a := by
    unfold begI
    rw [s2_off (by omega), s2_off (by omega), s2_off (by omega), s2_off (by omega), s2_off (by omega), s2_off (by omega), s2_off (by omega), s2_off (by omega)]
  refine v_iload_n C 1 dLH_object_0 rfl rfl ?_
  refine v_if_lt C 9 dLH_object_1 (by decide) (fun h => absurd h hk0) (fun _ => ?_)
  refine v_iload_n C 1 dLH_object_4 rfl rfl ?_
  refine v_iconst C 5 dLH_object_5 (by decide) ?_
  refine v_icmp_le C 19 dLH_object_6 (by decide) (fun _ => ?_) (fun h => absurd hk5 h)
  refine v_aload_n C 0 dLH_object_19 rfl rfl ?_
  refine v_geti C cfLH (k := 11) (by assumption) rfl w122 dLH_object_20 ?_
  rw [hno]
  refine v_bipush C 6 dLH_object_23 (by decide) ?_
  refine v_icmp_lt C 30 dLH_object_25 (by decide) (fun _ => ?_) (fun h => absurd (nI_lt (b := 6) hno2 (by decide)) h)
  refine v_aload_n C 0 dLH_object_30 rfl rfl ?_
  refine v_getr C cfLH (k := 0) (by assumption) rfl (by assumption) w111 dLH_object_31 ?_
  refine v_aload_n C 0 dLH_object_34 rfl rfl ?_
  refine v_geti C cfLH (k := 11) (by assumption) rfl w122 dLH_object_35 ?_
  rw [hno]
  refine v_ualds C a1 hki hb2 dLH_object_38 ?_
  refine v_astore_n C 2 dLH_object_39 rfl (ble rfl) rfl ?_
  refine v_aload_n C 2 dLH_object_40 rfl rfl ?_
  refine v_ifnonnull C 62 dLH_object_41 (by decide) ?_
  refine v_aload_n C 2 dLH_object_62 rfl rfl ?_
  refine v_iload_n C 1 dLH_object_63 rfl rfl ?_
  refine v_cVv C (c_Su_begin (kl x) (kD x) g I J kind u0) mwSu_begin cfSu (by assumption) w450 w451 w449 rfl rfl (ble rfl) (ble rfl) (ble rfl) (ble rfl) (ble rfl) dLH_object_64 ?_
  refine v_aload_n C 0 dLH_object_67 rfl rfl ?_
  refine v_iconst C 0 dLH_object_68 (by decide) ?_
  refine v_puti C cfLH (k := 10) (by assumption) rfl w121 rfl (by first | rfl | assumption) (by first | rfl | assumption) dLH_object_69 ?_
  refine v_aload_n C 0 dLH_object_72 rfl rfl ?_
  refine v_dup C dLH_object_73 rfl ?_
  refine v_geti C cfLH (k := 11) (by assumption) rfl w122 dLH_object_74 ?_
  rw [s2_k (show 11 ≠ 10 by decide), eb, hno]
  refine v_iconst C 1 dLH_object_77 (by decide) ?_
  refine v_iadd C dLH_object_78 ?_
  refine v_puti C cfLH (k := 11) (by assumption) rfl w122 rfl rfl rfl dLH_object_79 ?_
  refine v_aload_n C 0 dLH_object_82 rfl rfl ?_
  refine v_geti C cfLH (k := 11) (by assumption) rfl w122 dLH_object_83 ?_
  rw [s2_self, nI_1]
  refine v_iconst C 1 dLH_object_86 (by decide) ?_
  refine v_isub C dLH_object_87 ?_
  rw [nI_pred]
  exact v_iret C M dLH_object_88 (ble rfl) (ble rfl) (pf_i rfl rfl rfl)
theorem c_LH_object_new (l : Launch) (D : va_G) (g : GM) (I : MI) (J : MJ) {a no u : Nat} (kind : Int32) (hA : LHAt g a) (hk0 : ¬ kind < 0) (hk5 : kind ≤ 5) (hno : I a 11 = nI no) (hno2 : no < 6) (hb : g.2.1 (a + 1) no = none) (hz : g.2.2 = u) (hau : a + 18 ≤ u) : Ct l yLH_object bLH_object 3 (some .int) (rmA 4 73 30 11250) D [.ref a, .int kind] g I J (fun v g2 I2 J2 => v = some (.int (nI no)) ∧ ∃ I1 : MI, SuAt g2 u ∧ g2.2.2 = u + 30 ∧ (∀ b, b < u → g2.1 b = g.1 b) ∧ (∀ b, b < u → b ≠ a + 1 → g2.2.1 b = g.2.1 b) ∧ g2.2.1 (a + 1) no = some u ∧ (∀ j, j ≠ no → g2.2.1 (a + 1) j = g.2.1 (a + 1) j) ∧ (∀ b, b < u → I1 b = I b) ∧ (∀ b, b < u → J2 b = J b) ∧ I2 = s2 (s2 (begI I1 u kind) a 10 0) a 11 (nI (no + 1))) := by
  obtain ⟨sh, r, z⟩ := g
  have hz : z = u := hz
  subst hz
  refine Ct.of (by decide) (ble rfl) [some (.ref a), some (.int kind), none] rfl ?_
  intro x C M
  obtain ⟨a0, a1, a2, a3, a4, a5, hS, a15, a16, a17, r0, r1, r2, r3, r4, r5, r6, r7, r8⟩ := id hA
  have hkc : (nI no).toNatClampNeg = no := nI_clamp (by omega)
  have hki : vp_in (nI no) 6 := vp_in_nI (by omega) (by decide)
  refine v_iload_n C 1 dLH_object_0 rfl rfl ?_
  refine v_if_lt C 9 dLH_object_1 (by decide) (fun h => absurd h hk0) (fun _ => ?_)
  refine v_iload_n C 1 dLH_object_4 rfl rfl ?_
  refine v_iconst C 5 dLH_object_5 (by decide) ?_
  refine v_icmp_le C 19 dLH_object_6 (by decide) (fun _ => ?_) (fun h => absurd hk5 h)
  refine v_aload_n C 0 dLH_object_19 rfl rfl ?_
  refine v_geti C cfLH (k := 11) (by assumption) rfl w122 dLH_object_20 ?_
  rw [hno]
  refine v_bipush C 6 dLH_object_23 (by decide) ?_
  refine v_icmp_lt C 30 dLH_object_25 (by decide) (fun _ => ?_) (fun h => absurd (nI_lt (b := 6) hno2 (by decide)) h)
  refine v_aload_n C 0 dLH_object_30 rfl rfl ?_
  refine v_getr C cfLH (k := 0) (by assumption) rfl (by assumption) w111 dLH_object_31 ?_
  refine v_aload_n C 0 dLH_object_34 rfl rfl ?_
  refine v_geti C cfLH (k := 11) (by assumption) rfl w122 dLH_object_35 ?_
  rw [hno]
  refine v_ualdn C a1 hki (by rw [hkc]; exact hb) dLH_object_38 ?_
  refine v_astoreN C 2 dLH_object_39 rfl (ble rfl) rfl ?_
  refine v_aloadN C 2 dLH_object_40 rfl rfl ?_
  refine v_ifnonnullN C dLH_object_41 ?_
  refine v_new C cfSu hdSu w23 w338 w11 (ble rfl) (ble rfl) dLH_object_44 ?_
  refine v_dup C dLH_object_47 rfl ?_
  refine v_callI C (c_Su_init (kl x) (kD x) _ _ _ (u := z) (by (simp only [g_sh]; (repeat (first | rw [if_neg (by omega)] | rw [if_pos (by omega)] | rw [s2_self] | rw [s2_a (by omega)] | rw [s2_k (by omega)])); try (first | rfl | assumption))) rfl) mwSu_init rfl w340 w339 rfl rfl (ble rfl) (ble rfl) (ble rfl) (ble rfl) (ble rfl) dLH_object_48 ?_
  rintro v ⟨sh2, rr2, z2⟩ I2 J2 ⟨rfl, hU, hz2, o1, o2, o3⟩
  have hz2 : z2 = z + 30 := hz2
  subst hz2
  have q0 : ∀ b, b < z → sh2 b = sh b := fun b hb => (o1 b hb).1.trans (by (simp only [g_sh]; (repeat (first | rw [if_neg (by omega)] | rw [if_pos (by omega)] | rw [s2_self] | rw [s2_a (by omega)] | rw [s2_k (by omega)])); try (first | rfl | assumption)))
  have q1 : ∀ b, b < z → rr2 b = r b := fun b hb => (o1 b hb).2.trans (by simp only [g_sh]; rw [if_neg (by omega)])
  have q2 : ∀ b, b < z → I2 b = I b := fun b hb => (o2 b hb).trans (by simp only [z_m]; rw [if_neg (by omega)])
  have q3 : ∀ b, b < z → J2 b = J b := fun b hb => (o3 b hb).trans (by simp only [z_m]; rw [if_neg (by omega)])
  have b0 : sh2 a = (5, 0) := by rw [q0 a (by omega)]; exact a0
  have b1 : sh2 (a + 1) = (14, 6) := by rw [q0 (a + 1) (by omega)]; exact a1
  have s0 : rr2 a 0 = some (a + 1) := by rw [q1 a (by omega)]; exact r0
  have eno : I2 a 11 = nI no := by rw [q2 a (by omega)]; exact hno
  have u0 := hU.1
  refine v_astore_n C 2 dLH_object_51 rfl (ble rfl) rfl ?_
  refine v_aload_n C 0 dLH_object_52 rfl rfl ?_
  refine v_getr C cfLH (k := 0) (by assumption) rfl (by assumption) w111 dLH_object_53 ?_
  refine v_aload_n C 0 dLH_object_56 rfl rfl ?_
  refine v_geti C cfLH (k := 11) (by assumption) rfl w122 dLH_object_57 ?_
  rw [eno]
  refine v_aload_n C 2 dLH_object_60 rfl rfl ?_
  refine v_uast C (a := a + 1) (n := 6) b1 hki u0 dLH_object_61 ?_
  rw [hkc]
  refine v_aload_n C 2 dLH_object_62 rfl rfl ?_
  refine v_iload_n C 1 dLH_object_63 rfl rfl ?_
  refine v_cVv C (c_Su_begin (kl x) (kD x) _ _ _ kind u0) mwSu_begin cfSu (by assumption) w450 w451 w449 rfl rfl (ble rfl) (ble rfl) (ble rfl) (ble rfl) (ble rfl) dLH_object_64 ?_
  have eb : begI I2 z kind a = I2 a := by
    unfold begI
    rw [s2_off (by omega), s2_off (by omega), s2_off (by omega), s2_off (by omega), s2_off (by omega), s2_off (by omega), s2_off (by omega), s2_off (by omega)]
  refine v_aload_n C 0 dLH_object_67 rfl rfl ?_
  refine v_iconst C 0 dLH_object_68 (by decide) ?_
  refine v_puti C cfLH (k := 10) (by assumption) rfl w121 rfl (by first | rfl | assumption) (by first | rfl | assumption) dLH_object_69 ?_
  refine v_aload_n C 0 dLH_object_72 rfl rfl ?_
  refine v_dup C dLH_object_73 rfl ?_
  refine v_geti C cfLH (k := 11) (by assumption) rfl w122 dLH_object_74 ?_
  rw [s2_k (show 11 ≠ 10 by decide), eb, eno]
  refine v_iconst C 1 dLH_object_77 (by decide) ?_
  refine v_iadd C dLH_object_78 ?_
  refine v_puti C cfLH (k := 11) (by assumption) rfl w122 rfl rfl rfl dLH_object_79 ?_
  refine v_aload_n C 0 dLH_object_82 rfl rfl ?_
  refine v_geti C cfLH (k := 11) (by assumption) rfl w122 dLH_object_83 ?_
  rw [s2_self, nI_1]
  refine v_iconst C 1 dLH_object_86 (by decide) ?_
  refine v_isub C dLH_object_87 ?_
  rw [nI_pred]
  refine v_iret C M dLH_object_88 (ble rfl) (ble rfl) ⟨rfl, I2, ?_, rfl, q0, fun b b1 b2 => ?_, ?_, fun j hj => ?_, q2, q3, rfl⟩
  · refine hU.mono (fun b b1 b2 => ⟨rfl, ?_⟩)
    show s2 rr2 (a + 1) no (some z) b = rr2 b
    rw [s2_off (by omega)]
  · show s2 rr2 (a + 1) no (some z) b = r b
    rw [s2_off b2, q1 b b1]
  · exact s2_self _ _ _ _
  · show s2 rr2 (a + 1) no (some z) (a + 1) j = r (a + 1) j
    rw [s2_k hj, q1 (a + 1) (by omega)]
/-! the questions of one object -/
def subQ (g : GM) (a k : Nat) (u : Nat) : Prop := g.2.1 (a + 1) k = some u ∧ SuAt g u ∧ a + 18 ≤ u
theorem c_LH_learnedSubject (l : Launch) (D : va_G) (g : GM) (I : MI) (J : MJ) {a k no u n : Nat} (hA : LHAt g a) (hno : I a 11 = nI no) (hno2 : no ≤ 6) (hk : k < no) (hu : subQ g a k u) (hn : I u 6 = nI n) (hn2 : n ≤ 16) : Ct l yLH_learnedSubject bLH_learnedSubject 3 (some (.object "LinearHistories$Subject")) (rmN 6 149) D [.ref a, .int (nI k)] g I J (fun v g2 I2 J2 => v = some (.ref u) ∧ lrnQ g I J u (a + 6) n none g2 I2 J2) := by
  refine Ct.of (by decide) (ble rfl) [some (.ref a), some (.int (nI k)), none] rfl ?_
  intro x C M
  obtain ⟨a0, a1, a2, a3, a4, a5, hS, a15, a16, a17, r0, r1, r2, r3, r4, r5, r6, r7, r8⟩ := id hA
  have u0 := hu.2.1.1
  refine v_aload_n C 0 dLH_learnedSubject_0 rfl rfl ?_
  refine v_iload_n C 1 dLH_learnedSubject_1 rfl rfl ?_
  refine v_cVr C (c_LH_subjectOf (kl x) (kD x) g I J hA hno hno2 hk hu.1) mwLH_subjectOf cfLH (by assumption) w171 ws0 w169 rfl rfl (ble rfl) (ble rfl) (ble rfl) (ble rfl) (ble rfl) dLH_learnedSubject_2 ?_
  refine v_astore_n C 2 dLH_learnedSubject_5 rfl (ble rfl) rfl ?_
  refine v_aload_n C 2 dLH_learnedSubject_6 rfl rfl ?_
  refine v_aload_n C 0 dLH_learnedSubject_7 rfl rfl ?_
  refine v_getr C cfLH (k := 5) (by assumption) rfl (by assumption) w116 dLH_learnedSubject_8 ?_
  refine v_callV C (c_Su_learn (kl x) (kD x) g I J hu.2.1 hS (by have := hu.2.2; omega) hn hn2) mwSu_learn cfSu (by assumption) w242 w243 w241 rfl rfl (ble rfl) (ble rfl) (ble rfl) (ble rfl) (ble rfl) dLH_learnedSubject_11 ?_
  intro v g2 I2 J2 hq
  have hv := hq.1
  subst hv
  refine v_aload_n C 2 dLH_learnedSubject_14 rfl rfl ?_
  exact v_aret C M dLH_learnedSubject_15 (ble rfl) (ble rfl) ⟨rfl, hq⟩
theorem c_LH_possibilities (l : Launch) (D : va_G) (g : GM) (I : MI) (J : MJ) {a k no u n : Nat} (hA : LHAt g a) (hno : I a 11 = nI no) (hno2 : no ≤ 6) (hk : k < no) (hu : subQ g a k u) (hn : I u 6 = nI n) (hn2 : n ≤ 16) : Ct l yLH_possibilities bLH_possibilities 2 (some .int) (rmN 7 171) D [.ref a, .int (nI k)] g I J (fun v g2 I2 J2 => v = some (.int (I2 u 10)) ∧ lrnQ g I J u (a + 6) n none g2 I2 J2) := by
  refine Ct.of (by decide) (ble rfl) [some (.ref a), some (.int (nI k))] rfl ?_
  intro x C M
  have a0 := hA.1
  have u0 := hu.2.1.1
  refine v_aload_n C 0 dLH_possibilities_0 rfl rfl ?_
  refine v_iload_n C 1 dLH_possibilities_1 rfl rfl ?_
  refine v_callV C (c_LH_learnedSubject (kl x) (kD x) g I J hA hno hno2 hk hu hn hn2) mwLH_learnedSubject cfLH (by assumption) w539 ws15 w537 rfl rfl (ble rfl) (ble rfl) (ble rfl) (ble rfl) (ble rfl) dLH_possibilities_2 ?_
  rintro v g2 I2 J2 ⟨rfl, hq⟩
  have hg := hq.2.1
  subst hg
  refine v_geti C cfSu (k := 10) (by assumption) rfl w398 dLH_possibilities_5 ?_
  exact v_iret C M dLH_possibilities_8 (ble rfl) (ble rfl) ⟨rfl, hq⟩
theorem c_LH_judge (l : Launch) (D : va_G) (g : GM) (I : MI) (J : MJ) {a k no u n : Nat} (hA : LHAt g a) (hno : I a 11 = nI no) (hno2 : no ≤ 6) (hk : k < no) (hu : subQ g a k u) (hn : I u 6 = nI n) (hn2 : n ≤ 16) : Ct l yLH_judge bLH_judge 2 (some .int) (rmN 7 171) D [.ref a, .int (nI k)] g I J (fun v g2 I2 J2 => v = some (.int (I2 u 11)) ∧ lrnQ g I J u (a + 6) n none g2 I2 J2) := by
  refine Ct.of (by decide) (ble rfl) [some (.ref a), some (.int (nI k))] rfl ?_
  intro x C M
  have a0 := hA.1
  have u0 := hu.2.1.1
  refine v_aload_n C 0 dLH_judge_0 rfl rfl ?_
  refine v_iload_n C 1 dLH_judge_1 rfl rfl ?_
  refine v_callV C (c_LH_learnedSubject (kl x) (kD x) g I J hA hno hno2 hk hu hn hn2) mwLH_learnedSubject cfLH (by assumption) w539 ws15 w537 rfl rfl (ble rfl) (ble rfl) (ble rfl) (ble rfl) (ble rfl) dLH_judge_2 ?_
  rintro v g2 I2 J2 ⟨rfl, hq⟩
  have hg := hq.2.1
  subst hg
  refine v_geti C cfSu (k := 11) (by assumption) rfl w400 dLH_judge_5 ?_
  exact v_iret C M dLH_judge_8 (ble rfl) (ble rfl) ⟨rfl, hq⟩
theorem c_LH_lasts (l : Launch) (D : va_G) (g : GM) (I : MI) (J : MJ) {a k no u n : Nat} (hA : LHAt g a) (hno : I a 11 = nI no) (hno2 : no ≤ 6) (hk : k < no) (hu : subQ g a k u) (hn : I u 6 = nI n) (hn2 : n ≤ 16) : Ct l yLH_lasts bLH_lasts 2 (some .int) (rmN 7 171) D [.ref a, .int (nI k)] g I J (fun v g2 I2 J2 => v = some (.int (I2 u 13)) ∧ lrnQ g I J u (a + 6) n none g2 I2 J2) := by
  refine Ct.of (by decide) (ble rfl) [some (.ref a), some (.int (nI k))] rfl ?_
  intro x C M
  have a0 := hA.1
  have u0 := hu.2.1.1
  refine v_aload_n C 0 dLH_lasts_0 rfl rfl ?_
  refine v_iload_n C 1 dLH_lasts_1 rfl rfl ?_
  refine v_callV C (c_LH_learnedSubject (kl x) (kD x) g I J hA hno hno2 hk hu hn hn2) mwLH_learnedSubject cfLH (by assumption) w539 ws15 w537 rfl rfl (ble rfl) (ble rfl) (ble rfl) (ble rfl) (ble rfl) dLH_lasts_2 ?_
  rintro v g2 I2 J2 ⟨rfl, hq⟩
  have hg := hq.2.1
  subst hg
  refine v_geti C cfSu (k := 13) (by assumption) rfl w405 dLH_lasts_5 ?_
  exact v_iret C M dLH_lasts_8 (ble rfl) (ble rfl) ⟨rfl, hq⟩
theorem c_LH_ways (l : Launch) (D : va_G) (g : GM) (I : MI) (J : MJ) {a k no u n : Nat} (hA : LHAt g a) (hno : I a 11 = nI no) (hno2 : no ≤ 6) (hk : k < no) (hu : subQ g a k u) (hn : I u 6 = nI n) (hn2 : n ≤ 16) : Ct l yLH_ways bLH_ways 2 (some .long) (rmN 7 171) D [.ref a, .int (nI k)] g I J (fun v g2 I2 J2 => v = some (.long (J2 u 12)) ∧ lrnQ g I J u (a + 6) n none g2 I2 J2) := by
  refine Ct.of (by decide) (ble rfl) [some (.ref a), some (.int (nI k))] rfl ?_
  intro x C M
  have a0 := hA.1
  have u0 := hu.2.1.1
  refine v_aload_n C 0 dLH_ways_0 rfl rfl ?_
  refine v_iload_n C 1 dLH_ways_1 rfl rfl ?_
  refine v_callV C (c_LH_learnedSubject (kl x) (kD x) g I J hA hno hno2 hk hu hn hn2) mwLH_learnedSubject cfLH (by assumption) w539 ws15 w537 rfl rfl (ble rfl) (ble rfl) (ble rfl) (ble rfl) (ble rfl) dLH_ways_2 ?_
  rintro v g2 I2 J2 ⟨rfl, hq⟩
  have hg := hq.2.1
  subst hg
  refine v_getl C cfSu (k := 12) (by assumption) rfl w403 dLH_ways_5 ?_
  exact v_lret C M dLH_ways_8 (ble rfl) (ble rfl) ⟨rfl, hq⟩
theorem c_LH_judgeOwn (l : Launch) (D : va_G) (g : GM) (I : MI) (J : MJ) {a k no u n : Nat} (hA : LHAt g a) (hno : I a 11 = nI no) (hno2 : no ≤ 6) (hk : k < no) (hu : subQ g a k u) (hn : I u 6 = nI n) (hn2 : n ≤ 16) : Ct l yLH_judgeOwn bLH_judgeOwn 3 (some .int) (rmN 6 149) D [.ref a, .int (nI k)] g I J (fun v g2 I2 J2 => v = some (.int (I2 u 15)) ∧ lroQ g I J u (a + 6) n none g2 I2 J2) := by
  refine Ct.of (by decide) (ble rfl) [some (.ref a), some (.int (nI k)), none] rfl ?_
  intro x C M
  obtain ⟨a0, a1, a2, a3, a4, a5, hS, a15, a16, a17, r0, r1, r2, r3, r4, r5, r6, r7, r8⟩ := id hA
  have u0 := hu.2.1.1
  refine v_aload_n C 0 dLH_judgeOwn_0 rfl rfl ?_
  refine v_iload_n C 1 dLH_judgeOwn_1 rfl rfl ?_
  refine v_cVr C (c_LH_subjectOf (kl x) (kD x) g I J hA hno hno2 hk hu.1) mwLH_subjectOf cfLH (by assumption) w171 ws0 w169 rfl rfl (ble rfl) (ble rfl) (ble rfl) (ble rfl) (ble rfl) dLH_judgeOwn_2 ?_
  refine v_astore_n C 2 dLH_judgeOwn_5 rfl (ble rfl) rfl ?_
  refine v_aload_n C 2 dLH_judgeOwn_6 rfl rfl ?_
  refine v_aload_n C 0 dLH_judgeOwn_7 rfl rfl ?_
  refine v_getr C cfLH (k := 5) (by assumption) rfl (by assumption) w116 dLH_judgeOwn_8 ?_
  refine v_callV C (c_Su_learnOwn (kl x) (kD x) g I J hu.2.1 hS (by have := hu.2.2; omega) hn hn2) mwSu_learnOwn cfSu (by assumption) w556 w557 w555 rfl rfl (ble rfl) (ble rfl) (ble rfl) (ble rfl) (ble rfl) dLH_judgeOwn_11 ?_
  intro v g2 I2 J2 hq
  have hv := hq.1
  subst hv
  have hg := hq.2.1
  subst hg
  refine v_aload_n C 2 dLH_judgeOwn_14 rfl rfl ?_
  refine v_geti C cfSu (k := 15) (by assumption) rfl w407 dLH_judgeOwn_15 ?_
  exact v_iret C M dLH_judgeOwn_18 (ble rfl) (ble rfl) ⟨rfl, hq⟩
theorem c_LH_broken (l : Launch) (D : va_G) (g : GM) (I : MI) (J : MJ) {a k no u n q bl : Nat} {cn : Nat → Nat} (hA : LHAt g a) (hno : I a 11 = nI no) (hno2 : no ≤ 6) (hk : k < no) (hu : subQ g a k u) (hn : I u 6 = nI n) (hn2 : n ≤ 16) (hq : I u 7 = nI q) (hq2 : q ≤ 16) (hbl : I u 16 = nI bl) (hbl2 : bl ≤ q) (hcn : ∀ i, i < q → I (u + 12) i = nI (cn i) ∧ cn i ≤ 16) : Ct l yLH_broken bLH_broken 3 (some .int) (rmN 7 173) D [.ref a, .int (nI k)] g I J (fun v g2 I2 J2 => v = some (.int (I2 u 17)) ∧ lrbQ g I J u (a + 6) n q bl cn none g2 I2 J2) := by
  refine Ct.of (by decide) (ble rfl) [some (.ref a), some (.int (nI k)), none] rfl ?_
  intro x C M
  obtain ⟨a0, a1, a2, a3, a4, a5, hS, a15, a16, a17, r0, r1, r2, r3, r4, r5, r6, r7, r8⟩ := id hA
  have u0 := hu.2.1.1
  refine v_aload_n C 0 dLH_broken_0 rfl rfl ?_
  refine v_iload_n C 1 dLH_broken_1 rfl rfl ?_
  refine v_cVr C (c_LH_subjectOf (kl x) (kD x) g I J hA hno hno2 hk hu.1) mwLH_subjectOf cfLH (by assumption) w171 ws0 w169 rfl rfl (ble rfl) (ble rfl) (ble rfl) (ble rfl) (ble rfl) dLH_broken_2 ?_
  refine v_astore_n C 2 dLH_broken_5 rfl (ble rfl) rfl ?_
  refine v_aload_n C 2 dLH_broken_6 rfl rfl ?_
  refine v_aload_n C 0 dLH_broken_7 rfl rfl ?_
  refine v_getr C cfLH (k := 5) (by assumption) rfl (by assumption) w116 dLH_broken_8 ?_
  refine v_callV C (c_Su_learnBreak (kl x) (kD x) g I J hu.2.1 hS (by have := hu.2.2; omega) hn hn2 hq hq2 hbl hbl2 hcn) mwSu_learnBreak cfSu (by assumption) w581 w582 w580 rfl rfl (ble rfl) (ble rfl) (ble rfl) (ble rfl) (ble rfl) dLH_broken_11 ?_
  intro v g2 I2 J2 hr
  have hv := hr.1
  subst hv
  have hg := hr.2.1
  subst hg
  refine v_aload_n C 2 dLH_broken_14 rfl rfl ?_
  refine v_geti C cfSu (k := 17) (by assumption) rfl w411 dLH_broken_15 ?_
  exact v_iret C M dLH_broken_18 (ble rfl) (ble rfl) ⟨rfl, hr⟩
