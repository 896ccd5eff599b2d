theorem noOb_no {no k : Nat} (hk : k < no) (hn : no < 2 ^ 31) : ¬ noOb no (nI k) := by
  rintro (h | h)
  · exact nI_pos (by omega) h
  · exact nI_ge hk hn h
def rjd (R : Nat → Nat → Int32) (N : Nat → Nat) (kind : Int32) (cnt : Nat) (until_ own : Int32) : Int32 := match brun (rstp R N kind cnt until_ own) cnt with
  | none => -2
  | some X => if ∀ p, p < X.1 → ¬ rEnd R cnt until_ (X.2.1 p) then 0 else 1
theorem c_Mo_possibilities_no (l : Launch) (D : va_G) (g : GM) (I : MI) (J : MJ) {m no : Nat} (k : Int32) (hM : MoAt g m) (hno : I m 1 = nI no) (hk : noOb no k) : Ct l yMo_possibilities bMo_possibilities 2 (some .int) (rmN 6 159) D [.ref m, .int k] g I J (PF (some (.int 0)) g (s2 I m 0 1) J) := by
  refine Ct.of (by decide) (ble rfl) [some (.ref m), some (.int k)] rfl ?_
  intro x C M
  obtain ⟨m0, m1, m2, m3, m4, m5, m6, m7, m8, m9, m10, m11, m12, m13, m14, m15, m16, m17, m18, m19, m20, m21, m22, m23, m24, m25, m26, f2, f3, f4, f6, f7, f8, f9, f10, f11, f12, f13, f14, f16, f17, f18, f19, f20, f21, f22, f23, f24, f25, f26, f32, f33, f34⟩ := id hM
  refine v_aload_n C 0 dMo_possibilities_0 rfl rfl ?_
  refine v_aload_n C 0 dMo_possibilities_1 rfl rfl ?_
  refine v_iload_n C 1 dMo_possibilities_2 rfl rfl ?_
  refine v_cVi C (c_Mo_noObject (kl x) (kD x) g I J k m0 hno) mwMo_noObject cfMo (by assumption) w794 ws23 w792 rfl rfl (ble rfl) (ble rfl) (ble rfl) (ble rfl) (ble rfl) dMo_possibilities_3 ?_
  rw [if_pos hk]
  refine v_if_eq C 13 dMo_possibilities_6 (by decide) (fun h => absurd h (by decide)) (fun _ => ?_)
  refine v_iconst C 1 dMo_possibilities_9 (by decide) ?_
  refine v_goto C 14 dMo_possibilities_10 (by decide) ?_
  refine v_puti C cfMo (k := 0) (by assumption) rfl w674 rfl rfl rfl dMo_possibilities_14 ?_
  refine v_aload_n C 0 dMo_possibilities_17 rfl rfl ?_
  refine v_getiN C cfMo (k := 0) (by assumption) rfl w674 dMo_possibilities_18 ((s2_self _ _ _ _)) ?_
  refine v_if_le C 26 dMo_possibilities_21 (by decide) (fun h => absurd h (by decide)) (fun _ => ?_)
  refine v_iconst C 0 dMo_possibilities_24 (by decide) ?_
  exact v_iret C M dMo_possibilities_25 (ble rfl) (ble rfl) (pf_i rfl rfl rfl)
theorem c_Mo_possibilities (l : Launch) (D : va_G) (g : GM) (I : MI) (J : MJ) {m no k cnt : Nat} {L : Nat → Nat} (hM : MoAt g m) (hL : LsOK I m L) (hno : I m 1 = nI no) (hno6 : no ≤ 6) (hk : k < no) (hc : I (m + 2) k = nI cnt) (hc2 : cnt ≤ 16) : Ct l yMo_possibilities bMo_possibilities 2 (some .int) (rmN 6 159) D [.ref m, .int (nI k)] g I J (fun v g2 I2 J2 => v = some (.int (I2 (m + 18) k)) ∧ lookQ g (s2 I m 0 0) J m k cnt L none g2 I2 J2) := by
  refine Ct.of (by decide) (ble rfl) [some (.ref m), some (.int (nI k))] rfl ?_
  intro x C M
  obtain ⟨m0, m1, m2, m3, m4, m5, m6, m7, m8, m9, m10, m11, m12, m13, m14, m15, m16, m17, m18, m19, m20, m21, m22, m23, m24, m25, m26, f2, f3, f4, f6, f7, f8, f9, f10, f11, f12, f13, f14, f16, f17, f18, f19, f20, f21, f22, f23, f24, f25, f26, f32, f33, f34⟩ := id hM
  have hk6 : k < 6 := by omega
  refine v_aload_n C 0 dMo_possibilities_0 rfl rfl ?_
  refine v_aload_n C 0 dMo_possibilities_1 rfl rfl ?_
  refine v_iload_n C 1 dMo_possibilities_2 rfl rfl ?_
  refine v_cVi C (c_Mo_noObject (kl x) (kD x) g I J (nI k) m0 hno) mwMo_noObject cfMo (by assumption) w794 ws23 w792 rfl rfl (ble rfl) (ble rfl) (ble rfl) (ble rfl) (ble rfl) dMo_possibilities_3 ?_
  rw [if_neg (noOb_no hk (by omega))]
  refine v_if_eq C 13 dMo_possibilities_6 (by decide) (fun _ => ?_) (fun h => absurd rfl h)
  refine v_iconst C 0 dMo_possibilities_13 (by decide) ?_
  refine v_puti C cfMo (k := 0) (by assumption) rfl w674 rfl rfl rfl dMo_possibilities_14 ?_
  refine v_aload_n C 0 dMo_possibilities_17 rfl rfl ?_
  refine v_getiN C cfMo (k := 0) (by assumption) rfl w674 dMo_possibilities_18 ((s2_self _ _ _ _)) ?_
  refine v_if_le C 26 dMo_possibilities_21 (by decide) (fun _ => ?_) (fun h => absurd (by decide) h)
  refine v_aload_n C 0 dMo_possibilities_26 rfl rfl ?_
  refine v_iload_n C 1 dMo_possibilities_27 rfl rfl ?_
  refine v_callV C (c_Mo_look (kl x) (kD x) g (s2 I m 0 0) J (cnt := cnt) hM (hL.s2 0 0) hk6 (by rw [s2_a (by omega)]; exact hc) hc2) mwMo_look cfMo (by assumption) w822 ws25 w820 rfl rfl (ble rfl) (ble rfl) (ble rfl) (ble rfl) (ble rfl) dMo_possibilities_28 ?_
  intro v g2 I2 J2 hq
  have hv := hq.1
  subst hv
  have hg := hq.2.1
  subst hg
  refine v_aload_n C 0 dMo_possibilities_31 rfl rfl ?_
  refine v_getr C cfMo (k := 21) (by assumption) rfl (by assumption) w695 dMo_possibilities_32 ?_
  refine v_iload_n C 1 dMo_possibilities_35 rfl rfl ?_
  refine v_ialdN C (q := (k)) (by assumption) (by first | rfl | (simp only [n16I, n2001I, nI_add, pk_mul, nI_1])) (by omega) (by decide) (rfl) dMo_possibilities_36 ?_
  exact v_iret C M dMo_possibilities_37 (ble rfl) (ble rfl) ⟨rfl, hq⟩
theorem c_Mo_judge_no (l : Launch) (D : va_G) (g : GM) (I : MI) (J : MJ) {m no : Nat} (k : Int32) (hM : MoAt g m) (hno : I m 1 = nI no) (hk : noOb no k) : Ct l yMo_judge bMo_judge 2 (some .int) (rmN 6 159) D [.ref m, .int k] g I J (PF (some (.int 0)) g (s2 I m 0 1) J) := by
  refine Ct.of (by decide) (ble rfl) [some (.ref m), some (.int k)] rfl ?_
  intro x C M
  obtain ⟨m0, m1, m2, m3, m4, m5, m6, m7, m8, m9, m10, m11, m12, m13, m14, m15, m16, m17, m18, m19, m20, m21, m22, m23, m24, m25, m26, f2, f3, f4, f6, f7, f8, f9, f10, f11, f12, f13, f14, f16, f17, f18, f19, f20, f21, f22, f23, f24, f25, f26, f32, f33, f34⟩ := id hM
  refine v_aload_n C 0 dMo_judge_0 rfl rfl ?_
  refine v_aload_n C 0 dMo_judge_1 rfl rfl ?_
  refine v_iload_n C 1 dMo_judge_2 rfl rfl ?_
  refine v_cVi C (c_Mo_noObject (kl x) (kD x) g I J k m0 hno) mwMo_noObject cfMo (by assumption) w794 ws23 w792 rfl rfl (ble rfl) (ble rfl) (ble rfl) (ble rfl) (ble rfl) dMo_judge_3 ?_
  rw [if_pos hk]
  refine v_if_eq C 13 dMo_judge_6 (by decide) (fun h => absurd h (by decide)) (fun _ => ?_)
  refine v_iconst C 1 dMo_judge_9 (by decide) ?_
  refine v_goto C 14 dMo_judge_10 (by decide) ?_
  refine v_puti C cfMo (k := 0) (by assumption) rfl w674 rfl rfl rfl dMo_judge_14 ?_
  refine v_aload_n C 0 dMo_judge_17 rfl rfl ?_
  refine v_getiN C cfMo (k := 0) (by assumption) rfl w674 dMo_judge_18 ((s2_self _ _ _ _)) ?_
  refine v_if_le C 26 dMo_judge_21 (by decide) (fun h => absurd h (by decide)) (fun _ => ?_)
  refine v_iconst C 0 dMo_judge_24 (by decide) ?_
  exact v_iret C M dMo_judge_25 (ble rfl) (ble rfl) (pf_i rfl rfl rfl)
theorem c_Mo_judge (l : Launch) (D : va_G) (g : GM) (I : MI) (J : MJ) {m no k cnt : Nat} {L : Nat → Nat} (hM : MoAt g m) (hL : LsOK I m L) (hno : I m 1 = nI no) (hno6 : no ≤ 6) (hk : k < no) (hc : I (m + 2) k = nI cnt) (hc2 : cnt ≤ 16) : Ct l yMo_judge bMo_judge 2 (some .int) (rmN 6 159) D [.ref m, .int (nI k)] g I J (fun v g2 I2 J2 => v = some (.int (I2 (m + 19) k)) ∧ lookQ g (s2 I m 0 0) J m k cnt L none g2 I2 J2) := by
  refine Ct.of (by decide) (ble rfl) [some (.ref m), some (.int (nI k))] rfl ?_
  intro x C M
  obtain ⟨m0, m1, m2, m3, m4, m5, m6, m7, m8, m9, m10, m11, m12, m13, m14, m15, m16, m17, m18, m19, m20, m21, m22, m23, m24, m25, m26, f2, f3, f4, f6, f7, f8, f9, f10, f11, f12, f13, f14, f16, f17, f18, f19, f20, f21, f22, f23, f24, f25, f26, f32, f33, f34⟩ := id hM
  have hk6 : k < 6 := by omega
  refine v_aload_n C 0 dMo_judge_0 rfl rfl ?_
  refine v_aload_n C 0 dMo_judge_1 rfl rfl ?_
  refine v_iload_n C 1 dMo_judge_2 rfl rfl ?_
  refine v_cVi C (c_Mo_noObject (kl x) (kD x) g I J (nI k) m0 hno) mwMo_noObject cfMo (by assumption) w794 ws23 w792 rfl rfl (ble rfl) (ble rfl) (ble rfl) (ble rfl) (ble rfl) dMo_judge_3 ?_
  rw [if_neg (noOb_no hk (by omega))]
  refine v_if_eq C 13 dMo_judge_6 (by decide) (fun _ => ?_) (fun h => absurd rfl h)
  refine v_iconst C 0 dMo_judge_13 (by decide) ?_
  refine v_puti C cfMo (k := 0) (by assumption) rfl w674 rfl rfl rfl dMo_judge_14 ?_
  refine v_aload_n C 0 dMo_judge_17 rfl rfl ?_
  refine v_getiN C cfMo (k := 0) (by assumption) rfl w674 dMo_judge_18 ((s2_self _ _ _ _)) ?_
  refine v_if_le C 26 dMo_judge_21 (by decide) (fun _ => ?_) (fun h => absurd (by decide) h)
  refine v_aload_n C 0 dMo_judge_26 rfl rfl ?_
  refine v_iload_n C 1 dMo_judge_27 rfl rfl ?_
  refine v_callV C (c_Mo_look (kl x) (kD x) g (s2 I m 0 0) J (cnt := cnt) hM (hL.s2 0 0) hk6 (by rw [s2_a (by omega)]; exact hc) hc2) mwMo_look cfMo (by assumption) w822 ws25 w820 rfl rfl (ble rfl) (ble rfl) (ble rfl) (ble rfl) (ble rfl) dMo_judge_28 ?_
  intro v g2 I2 J2 hq
  have hv := hq.1
  subst hv
  have hg := hq.2.1
  subst hg
  refine v_aload_n C 0 dMo_judge_31 rfl rfl ?_
  refine v_getr C cfMo (k := 22) (by assumption) rfl (by assumption) w696 dMo_judge_32 ?_
  refine v_iload_n C 1 dMo_judge_35 rfl rfl ?_
  refine v_ialdN C (q := (k)) (by assumption) (by first | rfl | (simp only [n16I, n2001I, nI_add, pk_mul, nI_1])) (by omega) (by decide) (rfl) dMo_judge_36 ?_
  exact v_iret C M dMo_judge_37 (ble rfl) (ble rfl) ⟨rfl, hq⟩
theorem c_Mo_lasts_no (l : Launch) (D : va_G) (g : GM) (I : MI) (J : MJ) {m no : Nat} (k : Int32) (hM : MoAt g m) (hno : I m 1 = nI no) (hk : noOb no k) : Ct l yMo_lasts bMo_lasts 2 (some .int) (rmN 6 159) D [.ref m, .int k] g I J (PF (some (.int 0)) g (s2 I m 0 1) J) := by
  refine Ct.of (by decide) (ble rfl) [some (.ref m), some (.int k)] rfl ?_
  intro x C M
  obtain ⟨m0, m1, m2, m3, m4, m5, m6, m7, m8, m9, m10, m11, m12, m13, m14, m15, m16, m17, m18, m19, m20, m21, m22, m23, m24, m25, m26, f2, f3, f4, f6, f7, f8, f9, f10, f11, f12, f13, f14, f16, f17, f18, f19, f20, f21, f22, f23, f24, f25, f26, f32, f33, f34⟩ := id hM
  refine v_aload_n C 0 dMo_lasts_0 rfl rfl ?_
  refine v_aload_n C 0 dMo_lasts_1 rfl rfl ?_
  refine v_iload_n C 1 dMo_lasts_2 rfl rfl ?_
  refine v_cVi C (c_Mo_noObject (kl x) (kD x) g I J k m0 hno) mwMo_noObject cfMo (by assumption) w794 ws23 w792 rfl rfl (ble rfl) (ble rfl) (ble rfl) (ble rfl) (ble rfl) dMo_lasts_3 ?_
  rw [if_pos hk]
  refine v_if_eq C 13 dMo_lasts_6 (by decide) (fun h => absurd h (by decide)) (fun _ => ?_)
  refine v_iconst C 1 dMo_lasts_9 (by decide) ?_
  refine v_goto C 14 dMo_lasts_10 (by decide) ?_
  refine v_puti C cfMo (k := 0) (by assumption) rfl w674 rfl rfl rfl dMo_lasts_14 ?_
  refine v_aload_n C 0 dMo_lasts_17 rfl rfl ?_
  refine v_getiN C cfMo (k := 0) (by assumption) rfl w674 dMo_lasts_18 ((s2_self _ _ _ _)) ?_
  refine v_if_le C 26 dMo_lasts_21 (by decide) (fun h => absurd h (by decide)) (fun _ => ?_)
  refine v_iconst C 0 dMo_lasts_24 (by decide) ?_
  exact v_iret C M dMo_lasts_25 (ble rfl) (ble rfl) (pf_i rfl rfl rfl)
theorem c_Mo_lasts (l : Launch) (D : va_G) (g : GM) (I : MI) (J : MJ) {m no k cnt : Nat} {L : Nat → Nat} (hM : MoAt g m) (hL : LsOK I m L) (hno : I m 1 = nI no) (hno6 : no ≤ 6) (hk : k < no) (hc : I (m + 2) k = nI cnt) (hc2 : cnt ≤ 16) : Ct l yMo_lasts bMo_lasts 2 (some .int) (rmN 6 159) D [.ref m, .int (nI k)] g I J (fun v g2 I2 J2 => v = some (.int (I2 (m + 21) k)) ∧ lookQ g (s2 I m 0 0) J m k cnt L none g2 I2 J2) := by
  refine Ct.of (by decide) (ble rfl) [some (.ref m), some (.int (nI k))] rfl ?_
  intro x C M
  obtain ⟨m0, m1, m2, m3, m4, m5, m6, m7, m8, m9, m10, m11, m12, m13, m14, m15, m16, m17, m18, m19, m20, m21, m22, m23, m24, m25, m26, f2, f3, f4, f6, f7, f8, f9, f10, f11, f12, f13, f14, f16, f17, f18, f19, f20, f21, f22, f23, f24, f25, f26, f32, f33, f34⟩ := id hM
  have hk6 : k < 6 := by omega
  refine v_aload_n C 0 dMo_lasts_0 rfl rfl ?_
  refine v_aload_n C 0 dMo_lasts_1 rfl rfl ?_
  refine v_iload_n C 1 dMo_lasts_2 rfl rfl ?_
  refine v_cVi C (c_Mo_noObject (kl x) (kD x) g I J (nI k) m0 hno) mwMo_noObject cfMo (by assumption) w794 ws23 w792 rfl rfl (ble rfl) (ble rfl) (ble rfl) (ble rfl) (ble rfl) dMo_lasts_3 ?_
  rw [if_neg (noOb_no hk (by omega))]
  refine v_if_eq C 13 dMo_lasts_6 (by decide) (fun _ => ?_) (fun h => absurd rfl h)
  refine v_iconst C 0 dMo_lasts_13 (by decide) ?_
  refine v_puti C cfMo (k := 0) (by assumption) rfl w674 rfl rfl rfl dMo_lasts_14 ?_
  refine v_aload_n C 0 dMo_lasts_17 rfl rfl ?_
  refine v_getiN C cfMo (k := 0) (by assumption) rfl w674 dMo_lasts_18 ((s2_self _ _ _ _)) ?_
  refine v_if_le C 26 dMo_lasts_21 (by decide) (fun _ => ?_) (fun h => absurd (by decide) h)
  refine v_aload_n C 0 dMo_lasts_26 rfl rfl ?_
  refine v_iload_n C 1 dMo_lasts_27 rfl rfl ?_
  refine v_callV C (c_Mo_look (kl x) (kD x) g (s2 I m 0 0) J (cnt := cnt) hM (hL.s2 0 0) hk6 (by rw [s2_a (by omega)]; exact hc) hc2) mwMo_look cfMo (by assumption) w822 ws25 w820 rfl rfl (ble rfl) (ble rfl) (ble rfl) (ble rfl) (ble rfl) dMo_lasts_28 ?_
  intro v g2 I2 J2 hq
  have hv := hq.1
  subst hv
  have hg := hq.2.1
  subst hg
  refine v_aload_n C 0 dMo_lasts_31 rfl rfl ?_
  refine v_getr C cfMo (k := 24) (by assumption) rfl (by assumption) w698 dMo_lasts_32 ?_
  refine v_iload_n C 1 dMo_lasts_35 rfl rfl ?_
  refine v_ialdN C (q := (k)) (by assumption) (by first | rfl | (simp only [n16I, n2001I, nI_add, pk_mul, nI_1])) (by omega) (by decide) (rfl) dMo_lasts_36 ?_
  exact v_iret C M dMo_lasts_37 (ble rfl) (ble rfl) ⟨rfl, hq⟩
theorem c_Mo_ways_no (l : Launch) (D : va_G) (g : GM) (I : MI) (J : MJ) {m no : Nat} (k : Int32) (hM : MoAt g m) (hno : I m 1 = nI no) (hk : noOb no k) : Ct l yMo_ways bMo_ways 2 (some .long) (rmN 6 159) D [.ref m, .int k] g I J (PF (some (.long 0)) g (s2 I m 0 1) J) := by
  refine Ct.of (by decide) (ble rfl) [some (.ref m), some (.int k)] rfl ?_
  intro x C M
  obtain ⟨m0, m1, m2, m3, m4, m5, m6, m7, m8, m9, m10, m11, m12, m13, m14, m15, m16, m17, m18, m19, m20, m21, m22, m23, m24, m25, m26, f2, f3, f4, f6, f7, f8, f9, f10, f11, f12, f13, f14, f16, f17, f18, f19, f20, f21, f22, f23, f24, f25, f26, f32, f33, f34⟩ := id hM
  refine v_aload_n C 0 dMo_ways_0 rfl rfl ?_
  refine v_aload_n C 0 dMo_ways_1 rfl rfl ?_
  refine v_iload_n C 1 dMo_ways_2 rfl rfl ?_
  refine v_cVi C (c_Mo_noObject (kl x) (kD x) g I J k m0 hno) mwMo_noObject cfMo (by assumption) w794 ws23 w792 rfl rfl (ble rfl) (ble rfl) (ble rfl) (ble rfl) (ble rfl) dMo_ways_3 ?_
  rw [if_pos hk]
  refine v_if_eq C 13 dMo_ways_6 (by decide) (fun h => absurd h (by decide)) (fun _ => ?_)
  refine v_iconst C 1 dMo_ways_9 (by decide) ?_
  refine v_goto C 14 dMo_ways_10 (by decide) ?_
  refine v_puti C cfMo (k := 0) (by assumption) rfl w674 rfl rfl rfl dMo_ways_14 ?_
  refine v_aload_n C 0 dMo_ways_17 rfl rfl ?_
  refine v_getiN C cfMo (k := 0) (by assumption) rfl w674 dMo_ways_18 ((s2_self _ _ _ _)) ?_
  refine v_if_le C 26 dMo_ways_21 (by decide) (fun h => absurd h (by decide)) (fun _ => ?_)
  refine v_lconst C 0 dMo_ways_24 (by decide) ?_
  exact v_lret C M dMo_ways_25 (ble rfl) (ble rfl) (pf_l rfl rfl rfl)
theorem c_Mo_ways (l : Launch) (D : va_G) (g : GM) (I : MI) (J : MJ) {m no k cnt : Nat} {L : Nat → Nat} (hM : MoAt g m) (hL : LsOK I m L) (hno : I m 1 = nI no) (hno6 : no ≤ 6) (hk : k < no) (hc : I (m + 2) k = nI cnt) (hc2 : cnt ≤ 16) : Ct l yMo_ways bMo_ways 2 (some .long) (rmN 6 159) D [.ref m, .int (nI k)] g I J (fun v g2 I2 J2 => v = some (.long (J2 (m + 20) k)) ∧ lookQ g (s2 I m 0 0) J m k cnt L none g2 I2 J2) := by
  refine Ct.of (by decide) (ble rfl) [some (.ref m), some (.int (nI k))] rfl ?_
  intro x C M
  obtain ⟨m0, m1, m2, m3, m4, m5, m6, m7, m8, m9, m10, m11, m12, m13, m14, m15, m16, m17, m18, m19, m20, m21, m22, m23, m24, m25, m26, f2, f3, f4, f6, f7, f8, f9, f10, f11, f12, f13, f14, f16, f17, f18, f19, f20, f21, f22, f23, f24, f25, f26, f32, f33, f34⟩ := id hM
  have hk6 : k < 6 := by omega
  refine v_aload_n C 0 dMo_ways_0 rfl rfl ?_
  refine v_aload_n C 0 dMo_ways_1 rfl rfl ?_
  refine v_iload_n C 1 dMo_ways_2 rfl rfl ?_
  refine v_cVi C (c_Mo_noObject (kl x) (kD x) g I J (nI k) m0 hno) mwMo_noObject cfMo (by assumption) w794 ws23 w792 rfl rfl (ble rfl) (ble rfl) (ble rfl) (ble rfl) (ble rfl) dMo_ways_3 ?_
  rw [if_neg (noOb_no hk (by omega))]
  refine v_if_eq C 13 dMo_ways_6 (by decide) (fun _ => ?_) (fun h => absurd rfl h)
  refine v_iconst C 0 dMo_ways_13 (by decide) ?_
  refine v_puti C cfMo (k := 0) (by assumption) rfl w674 rfl rfl rfl dMo_ways_14 ?_
  refine v_aload_n C 0 dMo_ways_17 rfl rfl ?_
  refine v_getiN C cfMo (k := 0) (by assumption) rfl w674 dMo_ways_18 ((s2_self _ _ _ _)) ?_
  refine v_if_le C 26 dMo_ways_21 (by decide) (fun _ => ?_) (fun h => absurd (by decide) h)
  refine v_aload_n C 0 dMo_ways_26 rfl rfl ?_
  refine v_iload_n C 1 dMo_ways_27 rfl rfl ?_
  refine v_callV C (c_Mo_look (kl x) (kD x) g (s2 I m 0 0) J (cnt := cnt) hM (hL.s2 0 0) hk6 (by rw [s2_a (by omega)]; exact hc) hc2) mwMo_look cfMo (by assumption) w822 ws25 w820 rfl rfl (ble rfl) (ble rfl) (ble rfl) (ble rfl) (ble rfl) dMo_ways_28 ?_
  intro v g2 I2 J2 hq
  have hv := hq.1
  subst hv
  have hg := hq.2.1
  subst hg
  refine v_aload_n C 0 dMo_ways_31 rfl rfl ?_
  refine v_getr C cfMo (k := 23) (by assumption) rfl (by assumption) w697 dMo_ways_32 ?_
  refine v_iload_n C 1 dMo_ways_35 rfl rfl ?_
  refine v_laldN C (q := (k)) (by assumption) (by first | rfl | (simp only [n16I, n2001I, nI_add, pk_mul, nI_1])) (by omega) (by decide) (rfl) dMo_ways_36 ?_
  exact v_lret C M dMo_ways_37 (ble rfl) (ble rfl) ⟨rfl, hq⟩
theorem c_Mo_judgeOwn_no (l : Launch) (D : va_G) (g : GM) (I : MI) (J : MJ) {m no : Nat} (k : Int32) (hM : MoAt g m) (hno : I m 1 = nI no) (hk : noOb no k) : Ct l yMo_judgeOwn bMo_judgeOwn 3 (some .int) (rmN 6 159) D [.ref m, .int k] g I J (PF (some (.int 0)) g (s2 I m 0 1) J) := by
  refine Ct.of (by decide) (ble rfl) [some (.ref m), some (.int k), none] rfl ?_
  intro x C M
  obtain ⟨m0, m1, m2, m3, m4, m5, m6, m7, m8, m9, m10, m11, m12, m13, m14, m15, m16, m17, m18, m19, m20, m21, m22, m23, m24, m25, m26, f2, f3, f4, f6, f7, f8, f9, f10, f11, f12, f13, f14, f16, f17, f18, f19, f20, f21, f22, f23, f24, f25, f26, f32, f33, f34⟩ := id hM
  refine v_aload_n C 0 dMo_judgeOwn_0 rfl rfl ?_
  refine v_aload_n C 0 dMo_judgeOwn_1 rfl rfl ?_
  refine v_iload_n C 1 dMo_judgeOwn_2 rfl rfl ?_
  refine v_cVi C (c_Mo_noObject (kl x) (kD x) g I J k m0 hno) mwMo_noObject cfMo (by assumption) w794 ws23 w792 rfl rfl (ble rfl) (ble rfl) (ble rfl) (ble rfl) (ble rfl) dMo_judgeOwn_3 ?_
  rw [if_pos hk]
  refine v_if_eq C 13 dMo_judgeOwn_6 (by decide) (fun h => absurd h (by decide)) (fun _ => ?_)
  refine v_iconst C 1 dMo_judgeOwn_9 (by decide) ?_
  refine v_goto C 14 dMo_judgeOwn_10 (by decide) ?_
  refine v_puti C cfMo (k := 0) (by assumption) rfl w674 rfl rfl rfl dMo_judgeOwn_14 ?_
  refine v_aload_n C 0 dMo_judgeOwn_17 rfl rfl ?_
  refine v_getiN C cfMo (k := 0) (by assumption) rfl w674 dMo_judgeOwn_18 ((s2_self _ _ _ _)) ?_
  refine v_if_le C 26 dMo_judgeOwn_21 (by decide) (fun h => absurd h (by decide)) (fun _ => ?_)
  refine v_iconst C 0 dMo_judgeOwn_24 (by decide) ?_
  exact v_iret C M dMo_judgeOwn_25 (ble rfl) (ble rfl) (pf_i rfl rfl rfl)
theorem rE_eqR_s2 (I : MI) (m : Nat) (L : Nat → Nat) (k q : Nat) (v : Int32) : eqR (rE I m L k) (rE (s2 I m q v) m L k) := eqR_mem (fun f h4 h11 => s2_off (by omega))
theorem c_Mo_judgeOwn (l : Launch) (D : va_G) (g : GM) (I : MI) (J : MJ) {m no k cnt : Nat} {L : Nat → Nat} (hM : MoAt g m) (hL : LsOK I m L) (hno : I m 1 = nI no) (hno6 : no ≤ 6) (hk : k < no) (hc : I (m + 2) k = nI cnt) (hc2 : cnt ≤ 16) : Ct l yMo_judgeOwn bMo_judgeOwn 3 (some .int) (rmN 6 159) D [.ref m, .int (nI k)] g I J (fun v g2 I2 J2 => v = some (.int (rjd (rE I m L k) (fun j => L (16 * k + j)) (I (m + 1) k) cnt (I m 15) 1)) ∧ g2 = g ∧ offG m 12006 (s2 I m 0 0) J I2 J2) := by
  refine Ct.of (by decide) (ble rfl) [some (.ref m), some (.int (nI k)), none] rfl ?_
  intro x C M
  obtain ⟨m0, m1, m2, m3, m4, m5, m6, m7, m8, m9, m10, m11, m12, m13, m14, m15, m16, m17, m18, m19, m20, m21, m22, m23, m24, m25, m26, f2, f3, f4, f6, f7, f8, f9, f10, f11, f12, f13, f14, f16, f17, f18, f19, f20, f21, f22, f23, f24, f25, f26, f32, f33, f34⟩ := id hM
  have hk6 : k < 6 := by omega
  refine v_aload_n C 0 dMo_judgeOwn_0 rfl rfl ?_
  refine v_aload_n C 0 dMo_judgeOwn_1 rfl rfl ?_
  refine v_iload_n C 1 dMo_judgeOwn_2 rfl rfl ?_
  refine v_cVi C (c_Mo_noObject (kl x) (kD x) g I J (nI k) m0 hno) mwMo_noObject cfMo (by assumption) w794 ws23 w792 rfl rfl (ble rfl) (ble rfl) (ble rfl) (ble rfl) (ble rfl) dMo_judgeOwn_3 ?_
  rw [if_neg (noOb_no hk (by omega))]
  refine v_if_eq C 13 dMo_judgeOwn_6 (by decide) (fun _ => ?_) (fun h => absurd rfl h)
  refine v_iconst C 0 dMo_judgeOwn_13 (by decide) ?_
  refine v_puti C cfMo (k := 0) (by assumption) rfl w674 rfl rfl rfl dMo_judgeOwn_14 ?_
  refine v_aload_n C 0 dMo_judgeOwn_17 rfl rfl ?_
  refine v_getiN C cfMo (k := 0) (by assumption) rfl w674 dMo_judgeOwn_18 ((s2_self _ _ _ _)) ?_
  refine v_if_le C 26 dMo_judgeOwn_21 (by decide) (fun _ => ?_) (fun h => absurd (by decide) h)
  refine v_aload_n C 0 dMo_judgeOwn_26 rfl rfl ?_
  refine v_iload_n C 1 dMo_judgeOwn_27 rfl rfl ?_
  refine v_sipush C 12006 dMo_judgeOwn_28 (by decide) ?_
  refine v_aload_n C 0 dMo_judgeOwn_31 rfl rfl ?_
  refine v_getiN C cfMo (k := 15) (by assumption) rfl w689 dMo_judgeOwn_32 ((s2_k (by decide))) ?_
  refine v_iconst C 1 dMo_judgeOwn_35 (by decide) ?_
  have hcc : s2 I m 0 0 (m + 2) k = nI cnt := by rw [s2_a (by omega)]; exact hc
  refine v_callV C (c_Mo_gather (kl x) (kD x) g (s2 I m 0 0) J (base := 12006) (I m 15) 1 hM (hL.s2 0 0) hk6 (by omega) hcc hc2) mwMo_gather cfMo (by assumption) w826 ws26 w824 rfl rfl (ble rfl) (ble rfl) (ble rfl) (ble rfl) (ble rfl) dMo_judgeOwn_36 ?_
  rintro v g2 I2 J2 ⟨rfl, o, h⟩
  rw [rstp_congr (rE_eqR_s2 I m L k 0 0), s2_a (show m + 1 ≠ m by omega)] at h
  have e15 : I2 m 15 = I m 15 := (o.2.1 15 (by decide) (by decide)).trans (s2_k (by decide))
  have hL2 : LsOK I2 m L := fun z hz => by rw [o.1 (m + 3) (by omega) (by omega)]; exact hL.s2 0 0 z hz
  have hc3 : I2 (m + 2) k = nI cnt := (congrFun (o.1 (m + 2) (by omega) (by omega)) _).trans hcc
  have eRc : eqR (rE I m L k) (rE I2 m L k) := eqR_mem (fun f h4 h11 => (o.1 (m + f) (by omega) (by omega)).trans (s2_off (by omega)))
  rcases h with ⟨h, rfl⟩ | ⟨X, h, rfl, xr, xw⟩
  · refine v_istore_n C 2 dMo_judgeOwn_39 rfl (ble rfl) rfl ?_
    refine v_aload_n C 0 dMo_judgeOwn_40 rfl rfl ?_
    refine v_iload_n C 1 dMo_judgeOwn_41 rfl rfl ?_
    refine v_sipush C 12006 dMo_judgeOwn_42 (by decide) ?_
    refine v_iload_n C 2 dMo_judgeOwn_45 rfl rfl ?_
    refine v_aload_n C 0 dMo_judgeOwn_46 rfl rfl ?_
    refine v_getiN C cfMo (k := 15) (by assumption) rfl w689 dMo_judgeOwn_47 (e15) ?_
    refine v_cVi C (c_Mo_judgeOf_many (kl x) (kD x) _ _ J2 (nI k) 12006 (I m 15)) mwMo_judgeOf cfMo (by assumption) w882 ws38 w880 rfl rfl (ble rfl) (ble rfl) (ble rfl) (ble rfl) (ble rfl) dMo_judgeOwn_50 ?_
    exact v_iret C M dMo_judgeOwn_53 (ble rfl) (ble rfl) ⟨by unfold rjd; rw [h], rfl, o⟩
  · have hX2 : X.1 ≤ 2000 := brun_le (rstp_SOK _ _ _ _ _ _) hc2 h
    refine v_istore_n C 2 dMo_judgeOwn_39 rfl (ble rfl) rfl ?_
    refine v_aload_n C 0 dMo_judgeOwn_40 rfl rfl ?_
    refine v_iload_n C 1 dMo_judgeOwn_41 rfl rfl ?_
    refine v_sipush C 12006 dMo_judgeOwn_42 (by decide) ?_
    refine v_iload_n C 2 dMo_judgeOwn_45 rfl rfl ?_
    refine v_aload_n C 0 dMo_judgeOwn_46 rfl rfl ?_
    refine v_getiN C cfMo (k := 15) (by assumption) rfl w689 dMo_judgeOwn_47 (e15) ?_
    refine v_cVi C (c_Mo_judgeOf (kl x) (kD x) _ _ J2 (base := 12006) (cnt := cnt) (L := L) (I m 15) hM hL2 hk6 (by omega) hc3 hc2) mwMo_judgeOf cfMo (by assumption) w882 ws38 w880 rfl rfl (ble rfl) (ble rfl) (ble rfl) (ble rfl) (ble rfl) dMo_judgeOwn_50 ?_
    have ej : (if ∀ p, p < X.1 → ¬ rEnd (rE I2 m L k) cnt (I m 15) (I2 (m + 13) (12006 + p)) then (0 : Int32) else 1) = rjd (rE I m L k) (fun j => L (16 * k + j)) (I (m + 1) k) cnt (I m 15) 1 := by
      unfold rjd
      rw [h]
      have eq : ∀ p, p < X.1 → (rEnd (rE I2 m L k) cnt (I m 15) (I2 (m + 13) (12006 + p)) ↔ rEnd (rE I m L k) cnt (I m 15) (X.2.1 p)) := fun p hp => by
        rw [(xr p hp).1]
        exact rEnd_congr eRc
      show _ = if _ then _ else _
      by_cases hq : ∀ p, p < X.1 → ¬ rEnd (rE I m L k) cnt (I m 15) (X.2.1 p)
      · rw [if_pos hq, if_pos (fun p hp hz => hq p hp ((eq p hp).mp hz))]
      · rw [if_neg hq, if_neg (fun hz => hq (fun p hp hy => hz p hp ((eq p hp).mpr hy)))]
    rw [ej]
    exact v_iret C M dMo_judgeOwn_53 (ble rfl) (ble rfl) ⟨rfl, rfl, o⟩
abbrev rTch (R : Nat → Nat → Int32) (cnt : Nat) (e : Int32) : Prop := ¬ ∀ i, i < cnt → ¬ (R i 10 = e ∨ R i 11 = e)
theorem c_Mo_isTouched (l : Launch) (D : va_G) (g : GM) (I : MI) (J : MJ) {m k cnt : Nat} {L : Nat → Nat} (e : Int32) (hM : MoAt g m) (hL : LsOK I m L) (hk : k < 6) (hc : I (m + 2) k = nI cnt) (hc2 : cnt ≤ 16) : Ct l yMo_isTouched bMo_isTouched 5 (some .boolean) (rmN 0 0) D [.ref m, .int (nI k), .int e] g I J (PF (some (.int (if rTch (rE I m L k) cnt e then 1 else 0))) g I J) := by
  refine Ct.of (by decide) (ble rfl) [some (.ref m), some (.int (nI k)), some (.int e), none, none] rfl ?_
  intro x C M
  obtain ⟨m0, m1, m2, m3, m4, m5, m6, m7, m8, m9, m10, m11, m12, m13, m14, m15, m16, m17, m18, m19, m20, m21, m22, m23, m24, m25, m26, f2, f3, f4, f6, f7, f8, f9, f10, f11, f12, f13, f14, f16, f17, f18, f19, f20, f21, f22, f23, f24, f25, f26, f32, f33, f34⟩ := id hM
  have hl : ∀ j, j < 16 → I (m + 3) (16 * k + j) = nI (L (16 * k + j)) ∧ L (16 * k + j) < 48 := fun j hj => hL _ (by omega)
  refine v_iconst C 0 dMo_isTouched_0 (by decide) ?_
  refine v_istore_n C 3 dMo_isTouched_1 rfl (ble rfl) rfl ?_
  have loop : ∀ (q j : Nat) (z4 : Option Value), j + q = cnt → (∀ z, z < j → ¬ (rE I m L k z 10 = e ∨ rE I m L k z 11 = e)) → V x g 0 0 I J 2 [some (.ref m), some (.int (nI k)), some (.int e), some (.int (nI j)), z4] [] := by
    intro q
    induction q with
    | zero =>
      intro j z4 h1 h2
      refine v_iload_n C 3 dMo_isTouched_2 rfl rfl ?_
      refine v_aload_n C 0 dMo_isTouched_3 rfl rfl ?_
      refine v_getr C cfMo (k := 3) (by assumption) rfl (by assumption) w677 dMo_isTouched_4 ?_
      refine v_iload_n C 1 dMo_isTouched_7 rfl rfl ?_
      refine v_ialdN C (q := (k)) (by assumption) (by first | rfl | (simp only [n16I, n2001I, nI_add, pk_mul, nI_1])) (by omega) (by decide) (hc) dMo_isTouched_8 ?_
      refine v_icmp_ge C 55 dMo_isTouched_9 (by decide) (fun _ => ?_) (fun h => absurd (nI_le (by omega) (by omega)) h)
      refine v_iconst C 0 dMo_isTouched_55 (by decide) ?_
      exact v_zret C M (by first | exact Or.inl rfl | exact Or.inr rfl | assumption) dMo_isTouched_56 (ble rfl) (ble rfl) (pf_i (by rw [if_neg (fun h => h (fun z hz => h2 z (by omega)))]) rfl rfl)
    | succ q ih =>
      intro j z4 h1 h2
      have hj : j < 16 := by omega
      have hlj := (hl j hj).2
      have yes : (rE I m L k j 10 = e ∨ rE I m L k j 11 = e) → V x g 0 0 I J 47 [some (.ref m), some (.int (nI k)), some (.int e), some (.int (nI j)), some (.int (nI (L (16 * k + j))))] [] := by
        intro hy
        refine v_iconst C 1 dMo_isTouched_47 (by decide) ?_
        exact v_zret C M (by first | exact Or.inl rfl | exact Or.inr rfl | assumption) dMo_isTouched_48 (ble rfl) (ble rfl) (pf_i (by rw [if_pos (fun h => h j (by omega) hy)]) rfl rfl)
      refine v_iload_n C 3 dMo_isTouched_2 rfl rfl ?_
      refine v_aload_n C 0 dMo_isTouched_3 rfl rfl ?_
      refine v_getr C cfMo (k := 3) (by assumption) rfl (by assumption) w677 dMo_isTouched_4 ?_
      refine v_iload_n C 1 dMo_isTouched_7 rfl rfl ?_
      refine v_ialdN C (q := (k)) (by assumption) (by first | rfl | (simp only [n16I, n2001I, nI_add, pk_mul, nI_1])) (by omega) (by decide) (hc) dMo_isTouched_8 ?_
      refine v_icmp_ge C 55 dMo_isTouched_9 (by decide) (fun h => absurd h (nI_ge (by omega) (by omega))) (fun _ => ?_)
      refine v_aload_n C 0 dMo_isTouched_12 rfl rfl ?_
      refine v_getr C cfMo (k := 4) (by assumption) rfl (by assumption) w678 dMo_isTouched_13 ?_
      refine v_bipush C 16 dMo_isTouched_16 (by decide) ?_
      refine v_iload_n C 1 dMo_isTouched_18 rfl rfl ?_
      refine v_imul C dMo_isTouched_19 ?_
      refine v_iload_n C 3 dMo_isTouched_20 rfl rfl ?_
      refine v_iadd C dMo_isTouched_21 ?_
      refine v_ialdN C (q := (16 * k + j)) (by assumption) (by first | rfl | (simp only [n16I, n2001I, nI_add, pk_mul, nI_1])) (by omega) (by decide) ((hl j hj).1) dMo_isTouched_22 ?_
      refine v_istore C dMo_isTouched_23 (ble rfl) rfl ?_
      refine v_aload_n C 0 dMo_isTouched_25 rfl rfl ?_
      refine v_getr C cfMo (k := 12) (by assumption) rfl (by assumption) w686 dMo_isTouched_26 ?_
      refine v_iload C dMo_isTouched_29 rfl ?_
      refine v_ialdN C (q := (L (16 * k + j))) (by assumption) (by first | rfl | (simp only [n16I, n2001I, nI_add, pk_mul, nI_1])) (by omega) (by decide) (rfl) dMo_isTouched_31 ?_
      refine v_iload_n C 2 dMo_isTouched_32 rfl rfl ?_
      refine v_icmp_eq C 47 dMo_isTouched_33 (by decide) (fun c33 => ?_) (fun c33 => ?_)
      · exact yes (Or.inl c33)
      · refine v_aload_n C 0 dMo_isTouched_36 rfl rfl ?_
        refine v_getr C cfMo (k := 13) (by assumption) rfl (by assumption) w687 dMo_isTouched_37 ?_
        refine v_iload C dMo_isTouched_40 rfl ?_
        refine v_ialdN C (q := (L (16 * k + j))) (by assumption) (by first | rfl | (simp only [n16I, n2001I, nI_add, pk_mul, nI_1])) (by omega) (by decide) (rfl) dMo_isTouched_42 ?_
        refine v_iload_n C 2 dMo_isTouched_43 rfl rfl ?_
        refine v_icmp_ne C 49 dMo_isTouched_44 (by decide) (fun c44 => ?_) (fun c44 => ?_)
        · refine v_iinc C (nI (j + 1)) dMo_isTouched_49 rfl (nI_1 j) (ble rfl) rfl ?_
          refine v_goto C 2 dMo_isTouched_52 (by decide) ?_
          refine ih (j + 1) _ (by omega) (fun z hz => ?_)
          rcases Nat.lt_succ_iff_lt_or_eq.mp hz with h | h
          · exact h2 z h
          · rw [h]
            rintro (h | h)
            · exact c33 h
            · exact c44 h
        · exact yes (Or.inr c44)
  exact loop cnt 0 none (by omega) (fun z hz => absurd hz (Nat.not_lt_zero z))
/-- the first event behind which the object is broken -/
def rbrk (t : Nat → Bool) (jd : Nat → Int32) : Nat → Nat → Int32
  | 0, _ => -1
  | n + 1, e => if t e = true ∧ jd e = 0 then nI e else rbrk t jd n (e + 1)
def offH (m k : Nat) (I : MI) (J : MJ) (I2 : MI) (J2 : MJ) : Prop := (∀ b, b ≠ m → b ≠ m + 13 → b ≠ m + 22 → b ≠ m + 23 → I2 b = I b) ∧ (∀ q, q ≠ 28 → q ≠ 29 → I2 m q = I m q) ∧ (∀ i, i < 12006 → I2 (m + 13) i = I (m + 13) i) ∧ (∀ j, j ≠ k → I2 (m + 22) j = I (m + 22) j ∧ I2 (m + 23) j = I (m + 23) j) ∧ (∀ b, b ≠ m → b ≠ m + 14 → b ≠ m + 16 → J2 b = J b) ∧ ∀ i, i < 12006 → J2 (m + 14) i = J (m + 14) i
abbrev tchB (R : Nat → Nat → Int32) (cnt : Nat) : Nat → Bool := fun e => decide (rTch R cnt (nI e))
def brkR (R : Nat → Nat → Int32) (N : Nat → Nat) (kind : Int32) (cnt ev : Nat) : Int32 := rbrk (tchB R cnt) (fun e => rjd R N kind cnt (nI e) 0) ev 1
def broQ (g : GM) (I : MI) (J : MJ) (m k cnt ev : Nat) (L : Nat → Nat) : Option Value → GM → MI → MJ → Prop := fun v g2 I2 J2 => g2 = g ∧ v = some (.int (I2 (m + 22) k)) ∧ (I (m + 23) k ≠ 0 ∧ I2 = I ∧ J2 = J ∨ I (m + 23) k = 0 ∧ I2 (m + 23) k = 1 ∧ I2 (m + 22) k = brkR (rE I m L k) (fun j => L (16 * k + j)) (I (m + 1) k) cnt ev ∧ offH m k I J I2 J2)
theorem c_Mo_broken_no (l : Launch) (D : va_G) (g : GM) (I : MI) (J : MJ) {m no : Nat} (k : Int32) (hM : MoAt g m) (hno : I m 1 = nI no) (hk : noOb no k) : Ct l yMo_broken bMo_broken 4 (some .int) (rmN 6 159) D [.ref m, .int k] g I J (PF (some (.int 0)) g (s2 I m 0 1) J) := by
  refine Ct.of (by decide) (ble rfl) [some (.ref m), some (.int k), none, none] rfl ?_
  intro x C M
  obtain ⟨m0, m1, m2, m3, m4, m5, m6, m7, m8, m9, m10, m11, m12, m13, m14, m15, m16, m17, m18, m19, m20, m21, m22, m23, m24, m25, m26, f2, f3, f4, f6, f7, f8, f9, f10, f11, f12, f13, f14, f16, f17, f18, f19, f20, f21, f22, f23, f24, f25, f26, f32, f33, f34⟩ := id hM
  refine v_aload_n C 0 dMo_broken_0 rfl rfl ?_
  refine v_aload_n C 0 dMo_broken_1 rfl rfl ?_
  refine v_iload_n C 1 dMo_broken_2 rfl rfl ?_
  refine v_cVi C (c_Mo_noObject (kl x) (kD x) g I J k m0 hno) mwMo_noObject cfMo (by assumption) w794 ws23 w792 rfl rfl (ble rfl) (ble rfl) (ble rfl) (ble rfl) (ble rfl) dMo_broken_3 ?_
  rw [if_pos hk]
  refine v_if_eq C 13 dMo_broken_6 (by decide) (fun h => absurd h (by decide)) (fun _ => ?_)
  refine v_iconst C 1 dMo_broken_9 (by decide) ?_
  refine v_goto C 14 dMo_broken_10 (by decide) ?_
  refine v_puti C cfMo (k := 0) (by assumption) rfl w674 rfl rfl rfl dMo_broken_14 ?_
  refine v_aload_n C 0 dMo_broken_17 rfl rfl ?_
  refine v_getiN C cfMo (k := 0) (by assumption) rfl w674 dMo_broken_18 ((s2_self _ _ _ _)) ?_
  refine v_if_le C 26 dMo_broken_21 (by decide) (fun h => absurd h (by decide)) (fun _ => ?_)
  refine v_iconst C 0 dMo_broken_24 (by decide) ?_
  exact v_iret C M dMo_broken_25 (ble rfl) (ble rfl) (pf_i rfl rfl rfl)
set_option maxHeartbeats 4000000 in
theorem c_Mo_broken (l : Launch) (D : va_G) (g : GM) (I : MI) (J : MJ) {m no k cnt ev : Nat} {L : Nat → Nat} (hM : MoAt g m) (hL : LsOK I m L) (hno : I m 1 = nI no) (hno6 : no ≤ 6) (hk : k < no) (hc : I (m + 2) k = nI cnt) (hc2 : cnt ≤ 16) (hev : I m 15 = nI ev) (hev2 : ev < 2 ^ 30) : Ct l yMo_broken bMo_broken 4 (some .int) (rmN 6 159) D [.ref m, .int (nI k)] g I J (broQ g (s2 I m 0 0) J m k cnt ev L) := by
  refine Ct.of (by decide) (ble rfl) [some (.ref m), some (.int (nI k)), none, none] rfl ?_
  intro x C M
  obtain ⟨m0, m1, m2, m3, m4, m5, m6, m7, m8, m9, m10, m11, m12, m13, m14, m15, m16, m17, m18, m19, m20, m21, m22, m23, m24, m25, m26, f2, f3, f4, f6, f7, f8, f9, f10, f11, f12, f13, f14, f16, f17, f18, f19, f20, f21, f22, f23, f24, f25, f26, f32, f33, f34⟩ := id hM
  have hk6 : k < 6 := by omega
  refine v_aload_n C 0 dMo_broken_0 rfl rfl ?_
  refine v_aload_n C 0 dMo_broken_1 rfl rfl ?_
  refine v_iload_n C 1 dMo_broken_2 rfl rfl ?_
  refine v_cVi C (c_Mo_noObject (kl x) (kD x) g I J (nI k) m0 hno) mwMo_noObject cfMo (by assumption) w794 ws23 w792 rfl rfl (ble rfl) (ble rfl) (ble rfl) (ble rfl) (ble rfl) dMo_broken_3 ?_
  rw [if_neg (noOb_no hk (by omega))]
  refine v_if_eq C 13 dMo_broken_6 (by decide) (fun _ => ?_) (fun h => absurd rfl h)
  refine v_iconst C 0 dMo_broken_13 (by decide) ?_
  refine v_puti C cfMo (k := 0) (by assumption) rfl w674 rfl rfl rfl dMo_broken_14 ?_
  refine v_aload_n C 0 dMo_broken_17 rfl rfl ?_
  refine v_getiN C cfMo (k := 0) (by assumption) rfl w674 dMo_broken_18 ((s2_self _ _ _ _)) ?_
  refine v_if_le C 26 dMo_broken_21 (by decide) (fun _ => ?_) (fun h => absurd (by decide) h)
  generalize eI0 : s2 I m 0 0 = I0 at M ⊢
  have hL0 : LsOK I0 m L := by rw [← eI0]; exact hL.s2 0 0
  have hc0 : I0 (m + 2) k = nI cnt := by rw [← eI0, s2_a (by omega)]; exact hc
  have ev0 : I0 m 15 = nI ev := by rw [← eI0, s2_k (by decide)]; exact hev
  refine v_aload_n C 0 dMo_broken_26 rfl rfl ?_
  refine v_getr C cfMo (k := 26) (by assumption) rfl (by assumption) w700 dMo_broken_27 ?_
  refine v_iload_n C 1 dMo_broken_30 rfl rfl ?_
  refine v_zaldN C (q := (k)) (by assumption) (by first | rfl | (simp only [n16I, n2001I, nI_add, pk_mul, nI_1])) (by omega) (by decide) (rfl) dMo_broken_31 ?_
  by_cases h9 : I0 (m + 23) k = 0
  · rw [h9]
    refine v_if_ne C 118 dMo_broken_32 (by decide) (fun h => absurd rfl h) (fun _ => ?_)
    refine v_aload_n C 0 dMo_broken_35 rfl rfl ?_
    refine v_getr C cfMo (k := 25) (by assumption) rfl (by assumption) w699 dMo_broken_36 ?_
    refine v_iload_n C 1 dMo_broken_39 rfl rfl ?_
    refine v_iconst C (-1) dMo_broken_40 (by decide) ?_
    refine v_iastN C (q := (k)) (by assumption) (by first | rfl | (simp only [n16I, n2001I, nI_add, pk_mul, nI_1])) (by omega) (by decide) dMo_broken_41 ?_
    refine v_iconst C 1 dMo_broken_42 (by decide) ?_
    refine v_istore_n C 2 dMo_broken_43 rfl (ble rfl) rfl ?_
    have fin : ∀ (Ic : MI) (Jc : MJ) (z2 z3 : Option Value), Ic (m + 22) k = brkR (rE I0 m L k) (fun j => L (16 * k + j)) (I0 (m + 1) k) cnt ev → offH m k I0 J Ic Jc → V x g 0 0 Ic Jc 111 [some (.ref m), some (.int (nI k)), z2, z3] [] := by
      intro Ic Jc z2 z3 e1 o
      refine v_aload_n C 0 dMo_broken_111 rfl rfl ?_
      refine v_getr C cfMo (k := 26) (by assumption) rfl (by assumption) w700 dMo_broken_112 ?_
      refine v_iload_n C 1 dMo_broken_115 rfl rfl ?_
      refine v_iconst C 1 dMo_broken_116 (by decide) ?_
      refine v_zastN C (q := (k)) (by assumption) (by first | rfl | (simp only [n16I, n2001I, nI_add, pk_mul, nI_1])) (by omega) (by decide) (by first | exact Or.inl rfl | exact Or.inr rfl | assumption) dMo_broken_117 ?_
      refine v_aload_n C 0 dMo_broken_118 rfl rfl ?_
      refine v_getr C cfMo (k := 25) (by assumption) rfl (by assumption) w699 dMo_broken_119 ?_
      refine v_iload_n C 1 dMo_broken_122 rfl rfl ?_
      refine v_ialdN C (q := (k)) (by assumption) (by first | rfl | (simp only [n16I, n2001I, nI_add, pk_mul, nI_1])) (by omega) (by decide) (rfl) dMo_broken_123 ?_
      refine v_iret C M dMo_broken_124 (ble rfl) (ble rfl) ⟨rfl, rfl, Or.inr ⟨h9, s2_self _ _ _ _, ?_, ⟨fun b b1 b2 b3 b4 => ?_, fun q q1 q2 => ?_, fun i hi => ?_, fun j hj => ?_, o.2.2.2.2.1, o.2.2.2.2.2⟩⟩⟩
      · rw [s2_a (by omega)]; exact e1
      · rw [s2_off b4]; exact o.1 b b1 b2 b3 b4
      · rw [s2_a (by omega)]; exact o.2.1 q q1 q2
      · rw [s2_a (by omega)]; exact o.2.2.1 i hi
      · rw [s2_a (by omega), s2_k hj]; exact o.2.2.2.1 j hj
    have loop : ∀ (n e : Nat) (Ic : MI) (Jc : MJ) (z3 : Option Value), 1 ≤ e → e + n = ev + 1 → Ic (m + 22) k = -1 → rbrk (tchB (rE I0 m L k) cnt) (fun e => rjd (rE I0 m L k) (fun j => L (16 * k + j)) (I0 (m + 1) k) cnt (nI e) 0) n e = brkR (rE I0 m L k) (fun j => L (16 * k + j)) (I0 (m + 1) k) cnt ev → offH m k I0 J Ic Jc → V x g 0 0 Ic Jc 44 [some (.ref m), some (.int (nI k)), some (.int (nI e)), z3] [] := by
      intro n
      induction n with
      | zero =>
        intro e Ic Jc z3 h0 h1 h2 h3 o
        refine v_iload_n C 2 dMo_broken_44 rfl rfl ?_
        refine v_aload_n C 0 dMo_broken_45 rfl rfl ?_
        refine v_getiN C cfMo (k := 15) (by assumption) rfl w689 dMo_broken_46 (((o.2.1 15 (by decide) (by decide)).trans ev0)) ?_
        refine v_icmp_gt C 111 dMo_broken_49 (by decide) (fun _ => ?_) (fun h => absurd (nI_lt (by omega) (by omega)) h)
        exact fin Ic Jc _ _ (by rw [h2, ← h3]; rfl) o
      | succ n ih =>
        intro e Ic Jc z3 h0 h1 h2 h3 o
        have hLc : LsOK Ic m L := fun z hz => by rw [o.1 (m + 3) (by omega) (by omega) (by omega) (by omega)]; exact hL0 z hz
        have hcc : Ic (m + 2) k = nI cnt := (congrFun (o.1 (m + 2) (by omega) (by omega) (by omega) (by omega)) _).trans hc0
        have eRc : eqR (rE I0 m L k) (rE Ic m L k) := eqR_mem (fun f h4 h11 => o.1 (m + f) (by omega) (by omega) (by omega) (by omega))
        have ek1 : Ic (m + 1) k = I0 (m + 1) k := congrFun (o.1 (m + 1) (by omega) (by omega) (by omega) (by omega)) _
        have next : ∀ (I5 : MI) (J5 : MJ) (z3 : Option Value), I5 (m + 22) k = -1 → ¬ (tchB (rE I0 m L k) cnt e = true ∧ rjd (rE I0 m L k) (fun j => L (16 * k + j)) (I0 (m + 1) k) cnt (nI e) 0 = 0) → offH m k I0 J I5 J5 → V x g 0 0 I5 J5 105 [some (.ref m), some (.int (nI k)), some (.int (nI e)), z3] [] := by
          intro I5 J5 z3 e1 e2 o5
          refine v_iinc C (nI (e + 1)) dMo_broken_105 rfl (nI_1 e) (ble rfl) rfl ?_
          refine v_goto C 44 dMo_broken_108 (by decide) ?_
          refine ih (e + 1) I5 J5 z3 (by omega) (by omega) e1 ?_ o5
          rw [← h3]
          simp only [rbrk]
          rw [if_neg e2]
        refine v_iload_n C 2 dMo_broken_44 rfl rfl ?_
        refine v_aload_n C 0 dMo_broken_45 rfl rfl ?_
        refine v_getiN C cfMo (k := 15) (by assumption) rfl w689 dMo_broken_46 (((o.2.1 15 (by decide) (by decide)).trans ev0)) ?_
        refine v_icmp_gt C 111 dMo_broken_49 (by decide) (fun h => absurd h (nI_nlt (by omega) (by omega))) (fun _ => ?_)
        refine v_aload_n C 0 dMo_broken_52 rfl rfl ?_
        refine v_getr C cfMo (k := 25) (by assumption) rfl (by assumption) w699 dMo_broken_53 ?_
        refine v_iload_n C 1 dMo_broken_56 rfl rfl ?_
        refine v_ialdN C (q := (k)) (by assumption) (by first | rfl | (simp only [n16I, n2001I, nI_add, pk_mul, nI_1])) (by omega) (by decide) (h2) dMo_broken_57 ?_
        refine v_if_ge C 111 dMo_broken_58 (by decide) (fun h => absurd h (by decide)) (fun _ => ?_)
        refine v_aload_n C 0 dMo_broken_61 rfl rfl ?_
        refine v_iload_n C 1 dMo_broken_62 rfl rfl ?_
        refine v_iload_n C 2 dMo_broken_63 rfl rfl ?_
        refine v_cVi C (c_Mo_isTouched (kl x) (kD x) g Ic Jc (nI e) hM hLc hk6 hcc hc2) mwMo_isTouched cfMo (by assumption) w911 ws40 w909 rfl rfl (ble rfl) (ble rfl) (ble rfl) (ble rfl) (ble rfl) dMo_broken_64 ?_
        have et : (if rTch (rE Ic m L k) cnt (nI e) then (1 : Int32) else 0) = if tchB (rE I0 m L k) cnt e = true then 1 else 0 := by
          have eq : rTch (rE Ic m L k) cnt (nI e) ↔ rTch (rE I0 m L k) cnt (nI e) := by
            unfold rTch
            constructor
            · intro q r
              exact q (fun i hi z => r i hi (by rw [eRc.at i 10 (by decide) (by decide), eRc.at i 11 (by decide) (by decide)] at z; exact z))
            · intro q r
              exact q (fun i hi z => r i hi (by rw [eRc.at i 10 (by decide) (by decide), eRc.at i 11 (by decide) (by decide)]; exact z))
          by_cases hq : rTch (rE I0 m L k) cnt (nI e)
          · rw [if_pos (eq.mpr hq), if_pos (decide_eq_true hq)]
          · rw [if_neg (fun h => hq (eq.mp h)), if_neg (fun h => hq (of_decide_eq_true h))]
        rw [et]
        by_cases ht : tchB (rE I0 m L k) cnt e = true
        · rw [if_pos ht]
          refine v_if_eq C 105 dMo_broken_67 (by decide) (fun h => absurd h (by decide)) (fun _ => ?_)
          refine v_aload_n C 0 dMo_broken_70 rfl rfl ?_
          refine v_iload_n C 1 dMo_broken_71 rfl rfl ?_
          refine v_sipush C 12006 dMo_broken_72 (by decide) ?_
          refine v_iload_n C 2 dMo_broken_75 rfl rfl ?_
          refine v_iconst C 0 dMo_broken_76 (by decide) ?_
          refine v_callV C (c_Mo_gather (kl x) (kD x) g Ic Jc (base := 12006) (nI e) 0 hM hLc hk6 (by omega) hcc hc2) mwMo_gather cfMo (by assumption) w826 ws26 w824 rfl rfl (ble rfl) (ble rfl) (ble rfl) (ble rfl) (ble rfl) dMo_broken_77 ?_
          rintro v g2 I2 J2 ⟨rfl, o2, h⟩
          rw [rstp_congr eRc, ek1] at h
          have hL2 : LsOK I2 m L := fun z hz => by rw [o2.1 (m + 3) (by omega) (by omega)]; exact hLc z hz
          have hc3 : I2 (m + 2) k = nI cnt := (congrFun (o2.1 (m + 2) (by omega) (by omega)) _).trans hcc
          have eRd : eqR (rE Ic m L k) (rE I2 m L k) := eqR_mem (fun f h4 h11 => o2.1 (m + f) (by omega) (by omega))
          have o5 : ∀ z : Int32, offH m k I0 J (s2 I2 (m + 22) k z) J2 := fun z => by
            refine ⟨fun b b1 b2 b3 b4 => ?_, fun q q1 q2 => ?_, fun i hi => ?_, fun j hj => ?_, fun b b1 b2 b3 => ?_, fun i hi => ?_⟩
            · rw [s2_off b3, o2.1 b b1 b2]; exact o.1 b b1 b2 b3 b4
            · rw [s2_a (by omega), o2.2.1 q q1 q2]; exact o.2.1 q q1 q2
            · rw [s2_a (by omega), o2.2.2.1 i (by omega)]; exact o.2.2.1 i hi
            · rw [s2_k hj, s2_a (by omega), o2.1 (m + 22) (by omega) (by omega), o2.1 (m + 23) (by omega) (by omega)]; exact o.2.2.2.1 j hj
            · rw [o2.2.2.2.1 b b1 b2 b3]; exact o.2.2.2.2.1 b b1 b2 b3
            · rw [o2.2.2.2.2 i (by omega)]; exact o.2.2.2.2.2 i hi
          have after : ∀ (z : Int32) (z3 : Option Value), z = rjd (rE I0 m L k) (fun j => L (16 * k + j)) (I0 (m + 1) k) cnt (nI e) 0 → V x g2 0 0 I2 J2 96 [some (.ref m), some (.int (nI k)), some (.int (nI e)), z3] [.int z, .int (nI k), .ref (m + 22)] := by
            intro z z3 ez
            refine v_if_ne C 103 dMo_broken_96 (by decide) (fun c96 => ?_) (fun c96 => ?_)
            · refine v_iconst C (-1) dMo_broken_103 (by decide) ?_
              refine v_iastN C (q := (k)) (by assumption) (by first | rfl | (simp only [n16I, n2001I, nI_add, pk_mul, nI_1])) (by omega) (by decide) dMo_broken_104 ?_
              exact next _ _ _ (s2_self _ _ _ _) (fun h => c96 (ez.trans h.2)) (o5 _)
            · refine v_iload_n C 2 dMo_broken_99 rfl rfl ?_
              refine v_goto C 104 dMo_broken_100 (by decide) ?_
              refine v_iastN C (q := (k)) (by assumption) (by first | rfl | (simp only [n16I, n2001I, nI_add, pk_mul, nI_1])) (by omega) (by decide) dMo_broken_104 ?_
              refine v_iinc C (nI (e + 1)) dMo_broken_105 rfl (nI_1 e) (ble rfl) rfl ?_
              refine v_goto C 44 dMo_broken_108 (by decide) ?_
              -- found
              have e9 : brkR (rE I0 m L k) (fun j => L (16 * k + j)) (I0 (m + 1) k) cnt ev = nI e := by
                rw [← h3]
                simp only [rbrk]
                rw [if_pos ⟨ht, ez.symm.trans c96⟩]
              have o6 := o5 (nI e)
              refine v_iload_n C 2 dMo_broken_44 rfl rfl ?_
              refine v_aload_n C 0 dMo_broken_45 rfl rfl ?_
              refine v_getiN C cfMo (k := 15) (by assumption) rfl w689 dMo_broken_46 (((o6.2.1 15 (by decide) (by decide)).trans ev0)) ?_
              by_cases hlast : ev < e + 1
              · refine v_icmp_gt C 111 dMo_broken_49 (by decide) (fun _ => ?_) (fun h => absurd (nI_lt (by omega) (by omega)) h)
                exact fin _ _ _ _ (by rw [s2_self, e9]) o6
              · refine v_icmp_gt C 111 dMo_broken_49 (by decide) (fun h => absurd h (nI_nlt (by omega) (by omega))) (fun _ => ?_)
                refine v_aload_n C 0 dMo_broken_52 rfl rfl ?_
                refine v_getr C cfMo (k := 25) (by assumption) rfl (by assumption) w699 dMo_broken_53 ?_
                refine v_iload_n C 1 dMo_broken_56 rfl rfl ?_
                refine v_ialdN C (q := (k)) (by assumption) (by first | rfl | (simp only [n16I, n2001I, nI_add, pk_mul, nI_1])) (by omega) (by decide) ((s2_self _ _ _ _)) dMo_broken_57 ?_
                refine v_if_ge C 111 dMo_broken_58 (by decide) (fun _ => ?_) (fun h => absurd (nI_pos' (by omega)) h)
                exact fin _ _ _ _ (by rw [s2_self, e9]) o6
          rcases h with ⟨h, rfl⟩ | ⟨X, h, rfl, xr, xw⟩
          · refine v_istore_n C 3 dMo_broken_80 rfl (ble rfl) rfl ?_
            refine v_aload_n C 0 dMo_broken_81 rfl rfl ?_
            refine v_getr C cfMo (k := 25) (by assumption) rfl (by assumption) w699 dMo_broken_82 ?_
            refine v_iload_n C 1 dMo_broken_85 rfl rfl ?_
            refine v_aload_n C 0 dMo_broken_86 rfl rfl ?_
            refine v_iload_n C 1 dMo_broken_87 rfl rfl ?_
            refine v_sipush C 12006 dMo_broken_88 (by decide) ?_
            refine v_iload_n C 3 dMo_broken_91 rfl rfl ?_
            refine v_iload_n C 2 dMo_broken_92 rfl rfl ?_
            refine v_cVi C (c_Mo_judgeOf_many (kl x) (kD x) _ _ J2 (nI k) 12006 (nI e)) mwMo_judgeOf cfMo (by assumption) w882 ws38 w880 rfl rfl (ble rfl) (ble rfl) (ble rfl) (ble rfl) (ble rfl) dMo_broken_93 ?_
            exact after _ _ (by unfold rjd; rw [h])
          · have hX2 : X.1 ≤ 2000 := brun_le (rstp_SOK _ _ _ _ _ _) hc2 h
            refine v_istore_n C 3 dMo_broken_80 rfl (ble rfl) rfl ?_
            refine v_aload_n C 0 dMo_broken_81 rfl rfl ?_
            refine v_getr C cfMo (k := 25) (by assumption) rfl (by assumption) w699 dMo_broken_82 ?_
            refine v_iload_n C 1 dMo_broken_85 rfl rfl ?_
            refine v_aload_n C 0 dMo_broken_86 rfl rfl ?_
            refine v_iload_n C 1 dMo_broken_87 rfl rfl ?_
            refine v_sipush C 12006 dMo_broken_88 (by decide) ?_
            refine v_iload_n C 3 dMo_broken_91 rfl rfl ?_
            refine v_iload_n C 2 dMo_broken_92 rfl rfl ?_
            refine v_cVi C (c_Mo_judgeOf (kl x) (kD x) _ _ J2 (base := 12006) (cnt := cnt) (L := L) (nI e) hM hL2 hk6 (by omega) hc3 hc2) mwMo_judgeOf cfMo (by assumption) w882 ws38 w880 rfl rfl (ble rfl) (ble rfl) (ble rfl) (ble rfl) (ble rfl) dMo_broken_93 ?_
            refine after _ _ ?_
            unfold rjd
            rw [h]
            have eq : ∀ p, p < X.1 → (rEnd (rE I2 m L k) cnt (nI e) (I2 (m + 13) (12006 + p)) ↔ rEnd (rE I0 m L k) cnt (nI e) (X.2.1 p)) := fun p hp => by
              rw [(xr p hp).1]
              exact (rEnd_congr eRd).trans (rEnd_congr eRc)
            show _ = if _ then _ else _
            by_cases hq : ∀ p, p < X.1 → ¬ rEnd (rE I0 m L k) cnt (nI e) (X.2.1 p)
            · rw [if_pos hq, if_pos (fun p hp hz => hq p hp ((eq p hp).mp hz))]
            · rw [if_neg hq, if_neg (fun hz => hq (fun p hp hy => hz p hp ((eq p hp).mpr hy)))]
        · rw [if_neg ht]
          refine v_if_eq C 105 dMo_broken_67 (by decide) (fun _ => ?_) (fun h => absurd rfl h)
          exact next Ic Jc _ h2 (fun h => ht h.1) o
    refine loop ev 1 _ _ _ (Nat.le_refl _) (by omega) (s2_self _ _ _ _) rfl ⟨fun b b1 b2 b3 b4 => s2_off b3, fun q q1 q2 => s2_a (by omega), fun i hi => s2_a (by omega), fun j hj => ⟨s2_k hj, s2_a (by omega)⟩, fun _ _ _ _ => rfl, fun _ _ => rfl⟩
  · refine v_if_ne C 118 dMo_broken_32 (by decide) (fun _ => ?_) (fun h => absurd h h9)
    refine v_aload_n C 0 dMo_broken_118 rfl rfl ?_
    refine v_getr C cfMo (k := 25) (by assumption) rfl (by assumption) w699 dMo_broken_119 ?_
    refine v_iload_n C 1 dMo_broken_122 rfl rfl ?_
    refine v_ialdN C (q := (k)) (by assumption) (by first | rfl | (simp only [n16I, n2001I, nI_add, pk_mul, nI_1])) (by omega) (by decide) (rfl) dMo_broken_123 ?_
    exact v_iret C M dMo_broken_124 (ble rfl) (ble rfl) ⟨rfl, rfl, Or.inl ⟨h9, rfl, rfl⟩⟩
