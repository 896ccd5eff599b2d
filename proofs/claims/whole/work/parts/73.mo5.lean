/-! length, row, result of the reference, over what lay() does -/
abbrev LayC (g : GM) (I : MI) (J : MJ) (m : Nat) (z : Int32) (Q : MI → MJ → Prop) : Prop := ∀ (l : Launch) (D : va_G), Ct l yMo_lay bMo_lay 2 (some .boolean) (rmN 7 181) D [.ref m] g I J (fun v g2 I2 J2 => v = some (.int z) ∧ g2 = g ∧ Q I2 J2)
theorem c_Mo_length_1 (l : Launch) (D : va_G) (g : GM) (I : MI) (J : MJ) {m : Nat} {Q : MI → MJ → Prop} (hM : MoAt g m) (hl : LayC g I J m 1 Q) : Ct l yMo_length bMo_length 1 (some .int) (rmN 8 202) D [.ref m] g I J (fun v g2 I3 J3 => g2 = g ∧ ∃ I2, Q I2 J3 ∧ I3 = s2 I2 m 0 0 ∧ v = some (.int (I2 m 31))) := by
  refine Ct.of (by decide) (ble rfl) [some (.ref m)] rfl ?_
  intro x C M
  obtain ⟨m0, m1, m2, m3, m4, m5, m6, m7, m8, m9, m10, m11, m12, m13, m14, m15, m16, m17, m18, m19, m20, m21, m22, m23, m24, m25, m26, f2, f3, f4, f6, f7, f8, f9, f10, f11, f12, f13, f14, f16, f17, f18, f19, f20, f21, f22, f23, f24, f25, f26, f32, f33, f34⟩ := id hM
  refine v_aload_n C 0 dMo_length_0 rfl rfl ?_
  refine v_aload_n C 0 dMo_length_1 rfl rfl ?_
  refine v_callV C (hl (kl x) (kD x)) mwMo_lay cfMo (by assumption) w927 ws42 w925 rfl rfl (ble rfl) (ble rfl) (ble rfl) (ble rfl) (ble rfl) dMo_length_2 ?_
  rintro v g2 I2 J2 ⟨rfl, rfl, hQ⟩
  refine v_if_eq C 12 dMo_length_5 (by decide) (fun h => absurd h (by decide)) (fun _ => ?_)
  refine v_iconst C 0 dMo_length_8 (by decide) ?_
  refine v_goto C 13 dMo_length_9 (by decide) ?_
  refine v_puti C cfMo (k := 0) (by assumption) rfl w674 rfl rfl rfl dMo_length_13 ?_
  refine v_aload_n C 0 dMo_length_16 rfl rfl ?_
  refine v_getiN C cfMo (k := 0) (by assumption) rfl w674 dMo_length_17 ((s2_self _ _ _ _)) ?_
  refine v_if_le C 27 dMo_length_20 (by decide) (fun _ => ?_) (fun h => absurd (by decide) h)
  refine v_aload_n C 0 dMo_length_27 rfl rfl ?_
  refine v_getiN C cfMo (k := 31) (by assumption) rfl w705 dMo_length_28 ((s2_k (by decide))) ?_
  exact v_iret C M dMo_length_31 (ble rfl) (ble rfl) ⟨rfl, I2, hQ, rfl, rfl⟩
theorem c_Mo_length_0 (l : Launch) (D : va_G) (g : GM) (I : MI) (J : MJ) {m : Nat} {Q : MI → MJ → Prop} (hM : MoAt g m) (hl : LayC g I J m 0 Q) : Ct l yMo_length bMo_length 1 (some .int) (rmN 8 202) D [.ref m] g I J (fun v g2 I3 J3 => g2 = g ∧ ∃ I2, Q I2 J3 ∧ I3 = s2 I2 m 0 1 ∧ v = some (.int 0)) := by
  refine Ct.of (by decide) (ble rfl) [some (.ref m)] rfl ?_
  intro x C M
  obtain ⟨m0, m1, m2, m3, m4, m5, m6, m7, m8, m9, m10, m11, m12, m13, m14, m15, m16, m17, m18, m19, m20, m21, m22, m23, m24, m25, m26, f2, f3, f4, f6, f7, f8, f9, f10, f11, f12, f13, f14, f16, f17, f18, f19, f20, f21, f22, f23, f24, f25, f26, f32, f33, f34⟩ := id hM
  refine v_aload_n C 0 dMo_length_0 rfl rfl ?_
  refine v_aload_n C 0 dMo_length_1 rfl rfl ?_
  refine v_callV C (hl (kl x) (kD x)) mwMo_lay cfMo (by assumption) w927 ws42 w925 rfl rfl (ble rfl) (ble rfl) (ble rfl) (ble rfl) (ble rfl) dMo_length_2 ?_
  rintro v g2 I2 J2 ⟨rfl, rfl, hQ⟩
  refine v_if_eq C 12 dMo_length_5 (by decide) (fun _ => ?_) (fun h => absurd rfl h)
  refine v_iconst C 1 dMo_length_12 (by decide) ?_
  refine v_puti C cfMo (k := 0) (by assumption) rfl w674 rfl rfl rfl dMo_length_13 ?_
  refine v_aload_n C 0 dMo_length_16 rfl rfl ?_
  refine v_getiN C cfMo (k := 0) (by assumption) rfl w674 dMo_length_17 ((s2_self _ _ _ _)) ?_
  refine v_if_le C 27 dMo_length_20 (by decide) (fun h => absurd h (by decide)) (fun _ => ?_)
  refine v_iconst C 0 dMo_length_23 (by decide) ?_
  refine v_goto C 31 dMo_length_24 (by decide) ?_
  exact v_iret C M dMo_length_31 (ble rfl) (ble rfl) ⟨rfl, I2, hQ, rfl, rfl⟩
theorem c_Mo_row_0 (l : Launch) (D : va_G) (g : GM) (I : MI) (J : MJ) {m : Nat} {Q : MI → MJ → Prop} (i : Int32) (hM : MoAt g m) (hl : LayC g I J m 0 Q) : Ct l yMo_row bMo_row 2 (some .int) (rmN 8 202) D [.ref m, .int i] g I J (fun v g2 I3 J3 => g2 = g ∧ ∃ I2, Q I2 J3 ∧ I3 = s2 I2 m 0 1 ∧ v = some (.int 0)) := by
  refine Ct.of (by decide) (ble rfl) [some (.ref m), some (.int i)] rfl ?_
  intro x C M
  obtain ⟨m0, m1, m2, m3, m4, m5, m6, m7, m8, m9, m10, m11, m12, m13, m14, m15, m16, m17, m18, m19, m20, m21, m22, m23, m24, m25, m26, f2, f3, f4, f6, f7, f8, f9, f10, f11, f12, f13, f14, f16, f17, f18, f19, f20, f21, f22, f23, f24, f25, f26, f32, f33, f34⟩ := id hM
  refine v_aload_n C 0 dMo_row_0 rfl rfl ?_
  refine v_aload_n C 0 dMo_row_1 rfl rfl ?_
  refine v_callV C (hl (kl x) (kD x)) mwMo_lay cfMo (by assumption) w927 ws42 w925 rfl rfl (ble rfl) (ble rfl) (ble rfl) (ble rfl) (ble rfl) dMo_row_2 ?_
  rintro v g2 I2 J2 ⟨rfl, rfl, hQ⟩
  refine v_if_ne C 12 dMo_row_5 (by decide) (fun h => absurd rfl h) (fun _ => ?_)
  refine v_iconst C 1 dMo_row_8 (by decide) ?_
  refine v_goto C 29 dMo_row_9 (by decide) ?_
  refine v_puti C cfMo (k := 0) (by assumption) rfl w674 rfl rfl rfl dMo_row_29 ?_
  refine v_aload_n C 0 dMo_row_32 rfl rfl ?_
  refine v_getiN C cfMo (k := 0) (by assumption) rfl w674 dMo_row_33 ((s2_self _ _ _ _)) ?_
  refine v_if_le C 43 dMo_row_36 (by decide) (fun h => absurd h (by decide)) (fun _ => ?_)
  refine v_iconst C 0 dMo_row_39 (by decide) ?_
  refine v_goto C 49 dMo_row_40 (by decide) ?_
  exact v_iret C M dMo_row_49 (ble rfl) (ble rfl) ⟨rfl, I2, hQ, rfl, rfl⟩
theorem c_Mo_row_1 (l : Launch) (D : va_G) (g : GM) (I : MI) (J : MJ) {m : Nat} {Q : MI → MJ → Prop} (i : Int32) (hM : MoAt g m) (hl : LayC g I J m 1 Q) (hQ : ∀ I2 J2, Q I2 J2 → ∃ len, len ≤ 48 ∧ I2 m 31 = nI len) : Ct l yMo_row bMo_row 2 (some .int) (rmN 8 202) D [.ref m, .int i] g I J (fun v g2 I3 J3 => g2 = g ∧ ∃ I2, Q I2 J3 ∧ ((i < 0 ∨ I2 m 31 ≤ i) ∧ I3 = s2 I2 m 0 2 ∧ v = some (.int 0) ∨ ¬ (i < 0 ∨ I2 m 31 ≤ i) ∧ I3 = s2 I2 m 0 0 ∧ v = some (.int (I2 (m + 24) (ix i))))) := by
  refine Ct.of (by decide) (ble rfl) [some (.ref m), some (.int i)] rfl ?_
  intro x C M
  obtain ⟨m0, m1, m2, m3, m4, m5, m6, m7, m8, m9, m10, m11, m12, m13, m14, m15, m16, m17, m18, m19, m20, m21, m22, m23, m24, m25, m26, f2, f3, f4, f6, f7, f8, f9, f10, f11, f12, f13, f14, f16, f17, f18, f19, f20, f21, f22, f23, f24, f25, f26, f32, f33, f34⟩ := id hM
  refine v_aload_n C 0 dMo_row_0 rfl rfl ?_
  refine v_aload_n C 0 dMo_row_1 rfl rfl ?_
  refine v_callV C (hl (kl x) (kD x)) mwMo_lay cfMo (by assumption) w927 ws42 w925 rfl rfl (ble rfl) (ble rfl) (ble rfl) (ble rfl) (ble rfl) dMo_row_2 ?_
  rintro v g2 I2 J2 ⟨rfl, rfl, hq⟩
  obtain ⟨len, l1, l2⟩ := hQ I2 J2 hq
  have bad : (i < 0 ∨ I2 m 31 ≤ i) → V x g2 0 0 I2 J2 24 [some (.ref m), some (.int i)] [.ref m] := by
    intro hb
    refine v_iconst C 2 dMo_row_24 (by decide) ?_
    refine v_goto C 29 dMo_row_25 (by decide) ?_
    refine v_puti C cfMo (k := 0) (by assumption) rfl w674 rfl rfl rfl dMo_row_29 ?_
    refine v_aload_n C 0 dMo_row_32 rfl rfl ?_
    refine v_getiN C cfMo (k := 0) (by assumption) rfl w674 dMo_row_33 ((s2_self _ _ _ _)) ?_
    refine v_if_le C 43 dMo_row_36 (by decide) (fun h => absurd h (by decide)) (fun _ => ?_)
    refine v_iconst C 0 dMo_row_39 (by decide) ?_
    refine v_goto C 49 dMo_row_40 (by decide) ?_
    exact v_iret C M dMo_row_49 (ble rfl) (ble rfl) ⟨rfl, I2, hq, Or.inl ⟨hb, rfl, rfl⟩⟩
  refine v_if_ne C 12 dMo_row_5 (by decide) (fun _ => ?_) (fun h => absurd h (by decide))
  refine v_iload_n C 1 dMo_row_12 rfl rfl ?_
  refine v_if_lt C 24 dMo_row_13 (by decide) (fun c13 => ?_) (fun c13 => ?_)
  · exact bad (Or.inl c13)
  · refine v_iload_n C 1 dMo_row_16 rfl rfl ?_
    refine v_aload_n C 0 dMo_row_17 rfl rfl ?_
    refine v_geti C cfMo (k := 31) (by assumption) rfl w705 dMo_row_18 ?_
    refine v_icmp_lt C 28 dMo_row_21 (by decide) (fun c21 => ?_) (fun c21 => ?_)
    · have hnb : ¬ (i < 0 ∨ I2 m 31 ≤ i) := by
        rintro (h | h)
        · exact c13 h
        · exact absurd c21 (Int32.not_lt.mpr h)
      obtain ⟨j, j1, rfl⟩ := nI_of c13
      have j2 : j < 48 := by
        rw [l2] at c21
        have := (nI_ltI j1 (by omega)).mp c21
        omega
      have ej : ix (nI j) = j := nI_clamp j1
      refine v_iconst C 0 dMo_row_28 (by decide) ?_
      refine v_puti C cfMo (k := 0) (by assumption) rfl w674 rfl rfl rfl dMo_row_29 ?_
      refine v_aload_n C 0 dMo_row_32 rfl rfl ?_
      refine v_getiN C cfMo (k := 0) (by assumption) rfl w674 dMo_row_33 ((s2_self _ _ _ _)) ?_
      refine v_if_le C 43 dMo_row_36 (by decide) (fun _ => ?_) (fun h => absurd (by decide) h)
      refine v_aload_n C 0 dMo_row_43 rfl rfl ?_
      refine v_getr C cfMo (k := 32) (by assumption) rfl (by assumption) w706 dMo_row_44 ?_
      refine v_iload_n C 1 dMo_row_47 rfl rfl ?_
      refine v_ialdN C (q := (j)) (by assumption) (by first | rfl | (simp only [n16I, n2001I, nI_add, pk_mul, nI_1])) (by omega) (by decide) ((s2_a (by omega))) dMo_row_48 ?_
      exact v_iret C M dMo_row_49 (ble rfl) (ble rfl) ⟨rfl, I2, hq, Or.inr ⟨hnb, rfl, by rw [ej]⟩⟩
    · exact bad (Or.inr (Int32.not_lt.mp c21))
theorem c_Mo_result_0 (l : Launch) (D : va_G) (g : GM) (I : MI) (J : MJ) {m : Nat} {Q : MI → MJ → Prop} (i : Int32) (hM : MoAt g m) (hl : LayC g I J m 0 Q) : Ct l yMo_result bMo_result 2 (some .int) (rmN 8 202) D [.ref m, .int i] g I J (fun v g2 I3 J3 => g2 = g ∧ ∃ I2, Q I2 J3 ∧ I3 = s2 I2 m 0 1 ∧ v = some (.int 0)) := by
  refine Ct.of (by decide) (ble rfl) [some (.ref m), some (.int i)] rfl ?_
  intro x C M
  obtain ⟨m0, m1, m2, m3, m4, m5, m6, m7, m8, m9, m10, m11, m12, m13, m14, m15, m16, m17, m18, m19, m20, m21, m22, m23, m24, m25, m26, f2, f3, f4, f6, f7, f8, f9, f10, f11, f12, f13, f14, f16, f17, f18, f19, f20, f21, f22, f23, f24, f25, f26, f32, f33, f34⟩ := id hM
  refine v_aload_n C 0 dMo_result_0 rfl rfl ?_
  refine v_aload_n C 0 dMo_result_1 rfl rfl ?_
  refine v_callV C (hl (kl x) (kD x)) mwMo_lay cfMo (by assumption) w927 ws42 w925 rfl rfl (ble rfl) (ble rfl) (ble rfl) (ble rfl) (ble rfl) dMo_result_2 ?_
  rintro v g2 I2 J2 ⟨rfl, rfl, hQ⟩
  refine v_if_ne C 12 dMo_result_5 (by decide) (fun h => absurd rfl h) (fun _ => ?_)
  refine v_iconst C 1 dMo_result_8 (by decide) ?_
  refine v_goto C 29 dMo_result_9 (by decide) ?_
  refine v_puti C cfMo (k := 0) (by assumption) rfl w674 rfl rfl rfl dMo_result_29 ?_
  refine v_aload_n C 0 dMo_result_32 rfl rfl ?_
  refine v_getiN C cfMo (k := 0) (by assumption) rfl w674 dMo_result_33 ((s2_self _ _ _ _)) ?_
  refine v_if_le C 43 dMo_result_36 (by decide) (fun h => absurd h (by decide)) (fun _ => ?_)
  refine v_iconst C 0 dMo_result_39 (by decide) ?_
  refine v_goto C 49 dMo_result_40 (by decide) ?_
  exact v_iret C M dMo_result_49 (ble rfl) (ble rfl) ⟨rfl, I2, hQ, rfl, rfl⟩
theorem c_Mo_result_1 (l : Launch) (D : va_G) (g : GM) (I : MI) (J : MJ) {m : Nat} {Q : MI → MJ → Prop} (i : Int32) (hM : MoAt g m) (hl : LayC g I J m 1 Q) (hQ : ∀ I2 J2, Q I2 J2 → ∃ len, len ≤ 48 ∧ I2 m 31 = nI len) : Ct l yMo_result bMo_result 2 (some .int) (rmN 8 202) D [.ref m, .int i] g I J (fun v g2 I3 J3 => g2 = g ∧ ∃ I2, Q I2 J3 ∧ ((i < 0 ∨ I2 m 31 ≤ i) ∧ I3 = s2 I2 m 0 2 ∧ v = some (.int 0) ∨ ¬ (i < 0 ∨ I2 m 31 ≤ i) ∧ I3 = s2 I2 m 0 0 ∧ v = some (.int (I2 (m + 25) (ix i))))) := by
  refine Ct.of (by decide) (ble rfl) [some (.ref m), some (.int i)] rfl ?_
  intro x C M
  obtain ⟨m0, m1, m2, m3, m4, m5, m6, m7, m8, m9, m10, m11, m12, m13, m14, m15, m16, m17, m18, m19, m20, m21, m22, m23, m24, m25, m26, f2, f3, f4, f6, f7, f8, f9, f10, f11, f12, f13, f14, f16, f17, f18, f19, f20, f21, f22, f23, f24, f25, f26, f32, f33, f34⟩ := id hM
  refine v_aload_n C 0 dMo_result_0 rfl rfl ?_
  refine v_aload_n C 0 dMo_result_1 rfl rfl ?_
  refine v_callV C (hl (kl x) (kD x)) mwMo_lay cfMo (by assumption) w927 ws42 w925 rfl rfl (ble rfl) (ble rfl) (ble rfl) (ble rfl) (ble rfl) dMo_result_2 ?_
  rintro v g2 I2 J2 ⟨rfl, rfl, hq⟩
  obtain ⟨len, l1, l2⟩ := hQ I2 J2 hq
  have bad : (i < 0 ∨ I2 m 31 ≤ i) → V x g2 0 0 I2 J2 24 [some (.ref m), some (.int i)] [.ref m] := by
    intro hb
    refine v_iconst C 2 dMo_result_24 (by decide) ?_
    refine v_goto C 29 dMo_result_25 (by decide) ?_
    refine v_puti C cfMo (k := 0) (by assumption) rfl w674 rfl rfl rfl dMo_result_29 ?_
    refine v_aload_n C 0 dMo_result_32 rfl rfl ?_
    refine v_getiN C cfMo (k := 0) (by assumption) rfl w674 dMo_result_33 ((s2_self _ _ _ _)) ?_
    refine v_if_le C 43 dMo_result_36 (by decide) (fun h => absurd h (by decide)) (fun _ => ?_)
    refine v_iconst C 0 dMo_result_39 (by decide) ?_
    refine v_goto C 49 dMo_result_40 (by decide) ?_
    exact v_iret C M dMo_result_49 (ble rfl) (ble rfl) ⟨rfl, I2, hq, Or.inl ⟨hb, rfl, rfl⟩⟩
  refine v_if_ne C 12 dMo_result_5 (by decide) (fun _ => ?_) (fun h => absurd h (by decide))
  refine v_iload_n C 1 dMo_result_12 rfl rfl ?_
  refine v_if_lt C 24 dMo_result_13 (by decide) (fun c13 => ?_) (fun c13 => ?_)
  · exact bad (Or.inl c13)
  · refine v_iload_n C 1 dMo_result_16 rfl rfl ?_
    refine v_aload_n C 0 dMo_result_17 rfl rfl ?_
    refine v_geti C cfMo (k := 31) (by assumption) rfl w705 dMo_result_18 ?_
    refine v_icmp_lt C 28 dMo_result_21 (by decide) (fun c21 => ?_) (fun c21 => ?_)
    · have hnb : ¬ (i < 0 ∨ I2 m 31 ≤ i) := by
        rintro (h | h)
        · exact c13 h
        · exact absurd c21 (Int32.not_lt.mpr h)
      obtain ⟨j, j1, rfl⟩ := nI_of c13
      have j2 : j < 48 := by
        rw [l2] at c21
        have := (nI_ltI j1 (by omega)).mp c21
        omega
      have ej : ix (nI j) = j := nI_clamp j1
      refine v_iconst C 0 dMo_result_28 (by decide) ?_
      refine v_puti C cfMo (k := 0) (by assumption) rfl w674 rfl rfl rfl dMo_result_29 ?_
      refine v_aload_n C 0 dMo_result_32 rfl rfl ?_
      refine v_getiN C cfMo (k := 0) (by assumption) rfl w674 dMo_result_33 ((s2_self _ _ _ _)) ?_
      refine v_if_le C 43 dMo_result_36 (by decide) (fun _ => ?_) (fun h => absurd (by decide) h)
      refine v_aload_n C 0 dMo_result_43 rfl rfl ?_
      refine v_getr C cfMo (k := 33) (by assumption) rfl (by assumption) w707 dMo_result_44 ?_
      refine v_iload_n C 1 dMo_result_47 rfl rfl ?_
      refine v_ialdN C (q := (j)) (by assumption) (by first | rfl | (simp only [n16I, n2001I, nI_add, pk_mul, nI_1])) (by omega) (by decide) ((s2_a (by omega))) dMo_result_48 ?_
      exact v_iret C M dMo_result_49 (ble rfl) (ble rfl) ⟨rfl, I2, hq, Or.inr ⟨hnb, rfl, by rw [ej]⟩⟩
    · exact bad (Or.inr (Int32.not_lt.mp c21))
theorem c_Mo_events (l : Launch) (D : va_G) (g : GM) (I : MI) (J : MJ) {m : Nat} (m0 : g.1 m = (6, 0)) : Ct l yMo_events bMo_events 1 (some .int) (rmN 0 0) D [.ref m] g I J (PF (some (.int (I m 15))) g (s2 I m 0 0) J) := by
  refine Ct.of (by decide) (ble rfl) [some (.ref m)] rfl ?_
  intro x C M
  refine v_aload_n C 0 dMo_events_0 rfl rfl ?_
  refine v_iconst C 0 dMo_events_1 (by decide) ?_
  refine v_puti C cfMo (k := 0) (by assumption) rfl w674 rfl rfl rfl dMo_events_2 ?_
  refine v_aload_n C 0 dMo_events_5 rfl rfl ?_
  refine v_getiN C cfMo (k := 15) (by assumption) rfl w689 dMo_events_6 ((s2_k (by decide))) ?_
  exact v_iret C M dMo_events_9 (ble rfl) (ble rfl) ⟨rfl, rfl, rfl, rfl⟩
theorem c_Mo_clear (l : Launch) (D : va_G) (g : GM) (I : MI) (J : MJ) {m : Nat} (hM : MoAt g m) : Ct l yMo_clear bMo_clear 2 (some .int) (rmN 2 42) D [.ref m] g I J (fun v g2 I2 J2 => v = some (.int (I m 15)) ∧ g2 = g ∧ J2 = J ∧ ∃ I1 : MI, (∀ j, j < 8 → I1 (m + 12) j = -1) ∧ (∀ b, b ≠ m + 12 → I1 b = s2 (s2 (s2 (s2 I m 0 0) m 1 0) m 5 0) m 15 0 b) ∧ chM m I1 I2) := by
  refine Ct.of (by decide) (ble rfl) [some (.ref m), none] rfl ?_
  intro x C M
  obtain ⟨m0, m1, m2, m3, m4, m5, m6, m7, m8, m9, m10, m11, m12, m13, m14, m15, m16, m17, m18, m19, m20, m21, m22, m23, m24, m25, m26, f2, f3, f4, f6, f7, f8, f9, f10, f11, f12, f13, f14, f16, f17, f18, f19, f20, f21, f22, f23, f24, f25, f26, f32, f33, f34⟩ := id hM
  refine v_aload_n C 0 dMo_clear_0 rfl rfl ?_
  refine v_iconst C 0 dMo_clear_1 (by decide) ?_
  refine v_puti C cfMo (k := 0) (by assumption) rfl w674 rfl rfl rfl dMo_clear_2 ?_
  refine v_aload_n C 0 dMo_clear_5 rfl rfl ?_
  refine v_getiN C cfMo (k := 15) (by assumption) rfl w689 dMo_clear_6 ((s2_k (by decide))) ?_
  refine v_istore_n C 1 dMo_clear_9 rfl (ble rfl) rfl ?_
  refine v_aload_n C 0 dMo_clear_10 rfl rfl ?_
  refine v_iconst C 0 dMo_clear_11 (by decide) ?_
  refine v_puti C cfMo (k := 1) (by assumption) rfl w675 rfl rfl rfl dMo_clear_12 ?_
  refine v_aload_n C 0 dMo_clear_15 rfl rfl ?_
  refine v_iconst C 0 dMo_clear_16 (by decide) ?_
  refine v_puti C cfMo (k := 5) (by assumption) rfl w679 rfl rfl rfl dMo_clear_17 ?_
  refine v_aload_n C 0 dMo_clear_20 rfl rfl ?_
  refine v_iconst C 0 dMo_clear_21 (by decide) ?_
  refine v_puti C cfMo (k := 15) (by assumption) rfl w689 rfl rfl rfl dMo_clear_22 ?_
  refine v_aload_n C 0 dMo_clear_25 rfl rfl ?_
  refine v_callV C (c_Mo_forget (kl x) (kD x) g _ J hM) mwMo_forget cfMo (by assumption) w668 ws21 w666 rfl rfl (ble rfl) (ble rfl) (ble rfl) (ble rfl) (ble rfl) dMo_clear_26 ?_
  rintro v g2 I2 J2 ⟨rfl, rfl, rfl, h⟩
  refine v_iload_n C 1 dMo_clear_29 rfl rfl ?_
  exact v_iret C M dMo_clear_30 (ble rfl) (ble rfl) ⟨rfl, rfl, rfl, h⟩
theorem c_Mo_object_bad (l : Launch) (D : va_G) (g : GM) (I : MI) (J : MJ) {m : Nat} (kind : Int32) (hM : MoAt g m) (hk : kind < 0 ∨ 5 < kind) : Ct l yMo_object bMo_object 2 (some .int) (rmN 1 21) D [.ref m, .int kind] g I J (PF (some (.int 0)) g (s2 I m 0 1) J) := by
  refine Ct.of (by decide) (ble rfl) [some (.ref m), some (.int kind)] rfl ?_
  intro x C M
  obtain ⟨m0, m1, m2, m3, m4, m5, m6, m7, m8, m9, m10, m11, m12, m13, m14, m15, m16, m17, m18, m19, m20, m21, m22, m23, m24, m25, m26, f2, f3, f4, f6, f7, f8, f9, f10, f11, f12, f13, f14, f16, f17, f18, f19, f20, f21, f22, f23, f24, f25, f26, f32, f33, f34⟩ := id hM
  refine v_aload_n C 0 dMo_object_0 rfl rfl ?_
  refine v_iload_n C 1 dMo_object_1 rfl rfl ?_
  have go : V x g 0 0 I J 10 [some (.ref m), some (.int kind)] [.ref m] := by
    refine v_iconst C 1 dMo_object_10 (by decide) ?_
    refine v_goto C 15 dMo_object_11 (by decide) ?_
    refine v_puti C cfMo (k := 0) (by assumption) rfl w674 rfl rfl rfl dMo_object_15 ?_
    refine v_aload_n C 0 dMo_object_18 rfl rfl ?_
    refine v_getiN C cfMo (k := 0) (by assumption) rfl w674 dMo_object_19 ((s2_self _ _ _ _)) ?_
    refine v_if_le C 27 dMo_object_22 (by decide) (fun h => absurd h (by decide)) (fun _ => ?_)
    refine v_iconst C 0 dMo_object_25 (by decide) ?_
    exact v_iret C M dMo_object_26 (ble rfl) (ble rfl) ⟨rfl, rfl, rfl, rfl⟩
  refine v_if_lt C 10 dMo_object_2 (by decide) (fun c2 => ?_) (fun c2 => ?_)
  · exact go
  · refine v_iload_n C 1 dMo_object_5 rfl rfl ?_
    refine v_iconst C 5 dMo_object_6 (by decide) ?_
    refine v_icmp_le C 14 dMo_object_7 (by decide) (fun h => absurd h (fun h => hk.elim c2 (fun h9 => absurd h9 (Int32.not_lt.mpr h)))) (fun _ => ?_)
    exact go
theorem c_Mo_object_full (l : Launch) (D : va_G) (g : GM) (I : MI) (J : MJ) {m : Nat} (kind : Int32) (hM : MoAt g m) (hk : ¬ kind < 0) (hk5 : kind ≤ 5) (hno : I m 1 = 6) : Ct l yMo_object bMo_object 2 (some .int) (rmN 1 21) D [.ref m, .int kind] g I J (PF (some (.int (-1))) g (s2 I m 0 0) J) := by
  refine Ct.of (by decide) (ble rfl) [some (.ref m), some (.int kind)] rfl ?_
  intro x C M
  obtain ⟨m0, m1, m2, m3, m4, m5, m6, m7, m8, m9, m10, m11, m12, m13, m14, m15, m16, m17, m18, m19, m20, m21, m22, m23, m24, m25, m26, f2, f3, f4, f6, f7, f8, f9, f10, f11, f12, f13, f14, f16, f17, f18, f19, f20, f21, f22, f23, f24, f25, f26, f32, f33, f34⟩ := id hM
  refine v_aload_n C 0 dMo_object_0 rfl rfl ?_
  refine v_iload_n C 1 dMo_object_1 rfl rfl ?_
  refine v_if_lt C 10 dMo_object_2 (by decide) (fun h => absurd h hk) (fun _ => ?_)
  refine v_iload_n C 1 dMo_object_5 rfl rfl ?_
  refine v_iconst C 5 dMo_object_6 (by decide) ?_
  refine v_icmp_le C 14 dMo_object_7 (by decide) (fun _ => ?_) (fun h => absurd hk5 h)
  refine v_iconst C 0 dMo_object_14 (by decide) ?_
  refine v_puti C cfMo (k := 0) (by assumption) rfl w674 rfl rfl rfl dMo_object_15 ?_
  refine v_aload_n C 0 dMo_object_18 rfl rfl ?_
  refine v_getiN C cfMo (k := 0) (by assumption) rfl w674 dMo_object_19 ((s2_self _ _ _ _)) ?_
  refine v_if_le C 27 dMo_object_22 (by decide) (fun _ => ?_) (fun h => absurd (by decide) h)
  refine v_aload_n C 0 dMo_object_27 rfl rfl ?_
  refine v_getiN C cfMo (k := 1) (by assumption) rfl w675 dMo_object_28 (((s2_k (by decide)).trans hno)) ?_
  refine v_bipush C 6 dMo_object_31 (by decide) ?_
  refine v_icmp_ne C 38 dMo_object_33 (by decide) (fun h => absurd rfl h) (fun _ => ?_)
  refine v_iconst C (-1) dMo_object_36 (by decide) ?_
  exact v_iret C M dMo_object_37 (ble rfl) (ble rfl) ⟨rfl, rfl, rfl, rfl⟩
theorem c_Mo_object (l : Launch) (D : va_G) (g : GM) (I : MI) (J : MJ) {m no : Nat} (kind : Int32) (hM : MoAt g m) (hk : ¬ kind < 0) (hk5 : kind ≤ 5) (hno : I m 1 = nI no) (hno6 : no < 6) : Ct l yMo_object bMo_object 2 (some .int) (rmN 1 21) D [.ref m, .int kind] g I J (fun v g2 I2 J2 => v = some (.int (nI no)) ∧ g2 = g ∧ J2 = J ∧ chM m (s2 (s2 (s2 (s2 I m 0 0) (m + 1) no kind) (m + 2) no 0) m 1 (nI (no + 1))) I2) := by
  refine Ct.of (by decide) (ble rfl) [some (.ref m), some (.int kind)] rfl ?_
  intro x C M
  obtain ⟨m0, m1, m2, m3, m4, m5, m6, m7, m8, m9, m10, m11, m12, m13, m14, m15, m16, m17, m18, m19, m20, m21, m22, m23, m24, m25, m26, f2, f3, f4, f6, f7, f8, f9, f10, f11, f12, f13, f14, f16, f17, f18, f19, f20, f21, f22, f23, f24, f25, f26, f32, f33, f34⟩ := id hM
  refine v_aload_n C 0 dMo_object_0 rfl rfl ?_
  refine v_iload_n C 1 dMo_object_1 rfl rfl ?_
  refine v_if_lt C 10 dMo_object_2 (by decide) (fun h => absurd h hk) (fun _ => ?_)
  refine v_iload_n C 1 dMo_object_5 rfl rfl ?_
  refine v_iconst C 5 dMo_object_6 (by decide) ?_
  refine v_icmp_le C 14 dMo_object_7 (by decide) (fun _ => ?_) (fun h => absurd hk5 h)
  refine v_iconst C 0 dMo_object_14 (by decide) ?_
  refine v_puti C cfMo (k := 0) (by assumption) rfl w674 rfl rfl rfl dMo_object_15 ?_
  refine v_aload_n C 0 dMo_object_18 rfl rfl ?_
  refine v_getiN C cfMo (k := 0) (by assumption) rfl w674 dMo_object_19 ((s2_self _ _ _ _)) ?_
  refine v_if_le C 27 dMo_object_22 (by decide) (fun _ => ?_) (fun h => absurd (by decide) h)
  refine v_aload_n C 0 dMo_object_27 rfl rfl ?_
  refine v_getiN C cfMo (k := 1) (by assumption) rfl w675 dMo_object_28 (((s2_k (by decide)).trans hno)) ?_
  refine v_bipush C 6 dMo_object_31 (by decide) ?_
  refine v_icmp_ne C 38 dMo_object_33 (by decide) (fun _ => ?_) (fun h => absurd h (fun e => absurd ((nI_eq (a := no) (b := 6) (by omega) (by decide)).mp e) (by omega)))
  refine v_aload_n C 0 dMo_object_38 rfl rfl ?_
  refine v_getr C cfMo (k := 2) (by assumption) rfl (by assumption) w676 dMo_object_39 ?_
  refine v_aload_n C 0 dMo_object_42 rfl rfl ?_
  refine v_getiN C cfMo (k := 1) (by assumption) rfl w675 dMo_object_43 (((s2_k (by decide)).trans hno)) ?_
  refine v_iload_n C 1 dMo_object_46 rfl rfl ?_
  refine v_iastN C (q := (no)) (by assumption) (by first | rfl | (simp only [n16I, n2001I, nI_add, pk_mul, nI_1])) (by omega) (by decide) dMo_object_47 ?_
  refine v_aload_n C 0 dMo_object_48 rfl rfl ?_
  refine v_getr C cfMo (k := 3) (by assumption) rfl (by assumption) w677 dMo_object_49 ?_
  refine v_aload_n C 0 dMo_object_52 rfl rfl ?_
  refine v_getiN C cfMo (k := 1) (by assumption) rfl w675 dMo_object_53 (((s2_a (by omega)).trans ((s2_k (by decide)).trans hno))) ?_
  refine v_iconst C 0 dMo_object_56 (by decide) ?_
  refine v_iastN C (q := (no)) (by assumption) (by first | rfl | (simp only [n16I, n2001I, nI_add, pk_mul, nI_1])) (by omega) (by decide) dMo_object_57 ?_
  refine v_aload_n C 0 dMo_object_58 rfl rfl ?_
  refine v_dup C dMo_object_59 rfl ?_
  refine v_getiN C cfMo (k := 1) (by assumption) rfl w675 dMo_object_60 (((s2_a (by omega)).trans ((s2_a (by omega)).trans ((s2_k (by decide)).trans hno)))) ?_
  refine v_iconst C 1 dMo_object_63 (by decide) ?_
  refine v_iaddN C dMo_object_64 ((nI_1 no)) ?_
  refine v_puti C cfMo (k := 1) (by assumption) rfl w675 rfl rfl rfl dMo_object_65 ?_
  refine v_aload_n C 0 dMo_object_68 rfl rfl ?_
  refine v_callV C (c_Mo_change (kl x) (kD x) g _ J hM) mwMo_change cfMo (by assumption) w672 ws22 w670 rfl rfl (ble rfl) (ble rfl) (ble rfl) (ble rfl) (ble rfl) dMo_object_69 ?_
  rintro v g2 I2 J2 ⟨rfl, rfl, rfl, h⟩
  refine v_aload_n C 0 dMo_object_72 rfl rfl ?_
  refine v_getiN C cfMo (k := 1) (by assumption) rfl w675 dMo_object_73 (((h.2.2.1 1 (by decide)).trans (s2_self _ _ _ _))) ?_
  refine v_iconst C 1 dMo_object_76 (by decide) ?_
  refine v_isubN C dMo_object_77 ((nI_pred no)) ?_
  exact v_iret C M dMo_object_78 (ble rfl) (ble rfl) ⟨rfl, rfl, rfl, h⟩
/-- what a process that is asked for says: 1 there is none, 2 it is idle -/
def idl (I : MI) (m : Nat) (p : Int32) : Int32 := if p < 0 ∨ 7 < p then 1 else if I (m + 12) (ix p) < 0 then 2 else 0
theorem c_Mo_isIdle (l : Launch) (D : va_G) (g : GM) (I : MI) (J : MJ) {m : Nat} (p : Int32) (hM : MoAt g m) : Ct l yMo_isIdle bMo_isIdle 2 (some .boolean) (rmN 0 0) D [.ref m, .int p] g I J (PF (some (.int (if idl I m p = 0 then 0 else 1))) g (s2 I m 0 (idl I m p)) J) := by
  refine Ct.of (by decide) (ble rfl) [some (.ref m), some (.int p)] rfl ?_
  intro x C M
  obtain ⟨m0, m1, m2, m3, m4, m5, m6, m7, m8, m9, m10, m11, m12, m13, m14, m15, m16, m17, m18, m19, m20, m21, m22, m23, m24, m25, m26, f2, f3, f4, f6, f7, f8, f9, f10, f11, f12, f13, f14, f16, f17, f18, f19, f20, f21, f22, f23, f24, f25, f26, f32, f33, f34⟩ := id hM
  have fin : ∀ t : Int32, t = idl I m p → (t = 0 ∨ t = 1 ∨ t = 2) → V x g 0 0 I J 29 [some (.ref m), some (.int p)] [.int t, .ref m] := by
    intro t et ht
    refine v_puti C cfMo (k := 0) (by assumption) rfl w674 rfl rfl rfl dMo_isIdle_29 ?_
    refine v_aload_n C 0 dMo_isIdle_32 rfl rfl ?_
    refine v_getiN C cfMo (k := 0) (by assumption) rfl w674 dMo_isIdle_33 ((s2_self _ _ _ _)) ?_
    rcases ht with rfl | rfl | rfl
    · refine v_if_le C 43 dMo_isIdle_36 (by decide) (fun _ => ?_) (fun h => absurd (by decide) h)
      refine v_iconst C 0 dMo_isIdle_43 (by decide) ?_
      exact v_zret C M (by first | exact Or.inl rfl | exact Or.inr rfl | assumption) dMo_isIdle_44 (ble rfl) (ble rfl) (pf_i (by rw [← et, if_pos rfl]) (by rw [← et]) rfl)
    · refine v_if_le C 43 dMo_isIdle_36 (by decide) (fun h => absurd h (by decide)) (fun _ => ?_)
      refine v_iconst C 1 dMo_isIdle_39 (by decide) ?_
      refine v_goto C 44 dMo_isIdle_40 (by decide) ?_
      exact v_zret C M (by first | exact Or.inl rfl | exact Or.inr rfl | assumption) dMo_isIdle_44 (ble rfl) (ble rfl) (pf_i (by rw [← et]; rfl) (by rw [← et]) rfl)
    · refine v_if_le C 43 dMo_isIdle_36 (by decide) (fun h => absurd h (by decide)) (fun _ => ?_)
      refine v_iconst C 1 dMo_isIdle_39 (by decide) ?_
      refine v_goto C 44 dMo_isIdle_40 (by decide) ?_
      exact v_zret C M (by first | exact Or.inl rfl | exact Or.inr rfl | assumption) dMo_isIdle_44 (ble rfl) (ble rfl) (pf_i (by rw [← et]; rfl) (by rw [← et]) rfl)
  refine v_aload_n C 0 dMo_isIdle_0 rfl rfl ?_
  refine v_iload_n C 1 dMo_isIdle_1 rfl rfl ?_
  refine v_if_lt C 11 dMo_isIdle_2 (by decide) (fun c2 => ?_) (fun c2 => ?_)
  · refine v_iconst C 1 dMo_isIdle_11 (by decide) ?_
    refine v_goto C 29 dMo_isIdle_12 (by decide) ?_
    exact fin 1 (by unfold idl; rw [if_pos (Or.inl c2)]) (Or.inr (Or.inl rfl))
  · refine v_iload_n C 1 dMo_isIdle_5 rfl rfl ?_
    refine v_bipush C 7 dMo_isIdle_6 (by decide) ?_
    refine v_icmp_le C 15 dMo_isIdle_8 (by decide) (fun c8 => ?_) (fun c8 => ?_)
    · have hn : ¬ (p < 0 ∨ 7 < p) := by
        rintro (h | h)
        · exact c2 h
        · exact absurd h (Int32.not_lt.mpr c8)
      obtain ⟨j, j1, rfl⟩ := nI_of2 (n := 7) rfl c2 c8
      have ej : ix (nI j) = j := nI_clamp (by omega)
      refine v_aload_n C 0 dMo_isIdle_15 rfl rfl ?_
      refine v_getr C cfMo (k := 14) (by assumption) rfl (by assumption) w688 dMo_isIdle_16 ?_
      refine v_iload_n C 1 dMo_isIdle_19 rfl rfl ?_
      refine v_ialdN C (q := (j)) (by assumption) (by first | rfl | (simp only [n16I, n2001I, nI_add, pk_mul, nI_1])) (by omega) (by decide) (rfl) dMo_isIdle_20 ?_
      refine v_if_ge C 28 dMo_isIdle_21 (by decide) (fun c21 => ?_) (fun c21 => ?_)
      · refine v_iconst C 0 dMo_isIdle_28 (by decide) ?_
        exact fin 0 (by unfold idl; rw [if_neg hn, ej, if_neg (Int32.not_lt.mpr c21)]) (Or.inl rfl)
      · refine v_iconst C 2 dMo_isIdle_24 (by decide) ?_
        refine v_goto C 29 dMo_isIdle_25 (by decide) ?_
        exact fin 2 (by unfold idl; rw [if_neg hn, ej, if_pos (Int32.not_le.mp c21)]) (Or.inr (Or.inr rfl))
    · refine v_iconst C 1 dMo_isIdle_11 (by decide) ?_
      refine v_goto C 29 dMo_isIdle_12 (by decide) ?_
      exact fin 1 (by unfold idl; rw [if_pos (Or.inr (Int32.not_le.mp c8))]) (Or.inr (Or.inl rfl))
theorem c_Mo_back_idle (l : Launch) (D : va_G) (g : GM) (I : MI) (J : MJ) {m : Nat} (p its : Int32) (hM : MoAt g m) (hi : idl I m p ≠ 0) : Ct l yMo_back bMo_back 3 none (rmN 1 21) D [.ref m, .int p, .int its] g I J (PF none g (s2 I m 0 (idl I m p)) J) := by
  refine Ct.of (by decide) (ble rfl) [some (.ref m), some (.int p), some (.int its)] rfl ?_
  intro x C M
  obtain ⟨m0, m1, m2, m3, m4, m5, m6, m7, m8, m9, m10, m11, m12, m13, m14, m15, m16, m17, m18, m19, m20, m21, m22, m23, m24, m25, m26, f2, f3, f4, f6, f7, f8, f9, f10, f11, f12, f13, f14, f16, f17, f18, f19, f20, f21, f22, f23, f24, f25, f26, f32, f33, f34⟩ := id hM
  refine v_aload_n C 0 dMo_back_0 rfl rfl ?_
  refine v_iload_n C 1 dMo_back_1 rfl rfl ?_
  refine v_cVi C (c_Mo_isIdle (kl x) (kD x) g I J p hM) mwMo_isIdle cfMo (by assumption) w802 ws24 w800 rfl rfl (ble rfl) (ble rfl) (ble rfl) (ble rfl) (ble rfl) dMo_back_2 ?_
  rw [if_neg hi]
  refine v_if_eq C 9 dMo_back_5 (by decide) (fun h => absurd h (by decide)) (fun _ => ?_)
  exact v_vret C M dMo_back_8 (ble rfl) (ble rfl) ⟨rfl, rfl, rfl, rfl⟩
theorem c_Mo_lose_idle (l : Launch) (D : va_G) (g : GM) (I : MI) (J : MJ) {m : Nat} (p : Int32) (hM : MoAt g m) (hi : idl I m p ≠ 0) : Ct l yMo_lose bMo_lose 2 none (rmN 1 21) D [.ref m, .int p] g I J (PF none g (s2 I m 0 (idl I m p)) J) := by
  refine Ct.of (by decide) (ble rfl) [some (.ref m), some (.int p)] rfl ?_
  intro x C M
  obtain ⟨m0, m1, m2, m3, m4, m5, m6, m7, m8, m9, m10, m11, m12, m13, m14, m15, m16, m17, m18, m19, m20, m21, m22, m23, m24, m25, m26, f2, f3, f4, f6, f7, f8, f9, f10, f11, f12, f13, f14, f16, f17, f18, f19, f20, f21, f22, f23, f24, f25, f26, f32, f33, f34⟩ := id hM
  refine v_aload_n C 0 dMo_lose_0 rfl rfl ?_
  refine v_iload_n C 1 dMo_lose_1 rfl rfl ?_
  refine v_cVi C (c_Mo_isIdle (kl x) (kD x) g I J p hM) mwMo_isIdle cfMo (by assumption) w802 ws24 w800 rfl rfl (ble rfl) (ble rfl) (ble rfl) (ble rfl) (ble rfl) dMo_lose_2 ?_
  rw [if_neg hi]
  refine v_if_eq C 9 dMo_lose_5 (by decide) (fun h => absurd h (by decide)) (fun _ => ?_)
  exact v_vret C M dMo_lose_8 (ble rfl) (ble rfl) ⟨rfl, rfl, rfl, rfl⟩
theorem idl_0 {I : MI} {m p q : Nat} (hp : p < 8) (ho : I (m + 12) p = nI q) (hq : q < 48) : idl I m (nI p) = 0 := by
  unfold idl
  have ej : ix (nI p) = p := nI_clamp (by omega)
  rw [if_neg (fun h => h.elim (nI_pos (by omega)) (nI_nlt (a := 7) (b := p) (by omega) (by decide))), ej, ho, if_neg (nI_pos (by omega))]
theorem c_Mo_back (l : Launch) (D : va_G) (g : GM) (I : MI) (J : MJ) {m p q : Nat} (its : Int32) (hM : MoAt g m) (hp : p < 8) (ho : I (m + 12) p = nI q) (hq : q < 48) : Ct l yMo_back bMo_back 3 none (rmN 1 21) D [.ref m, .int (nI p), .int its] g I J (fun v g2 I2 J2 => v = none ∧ g2 = g ∧ J2 = J ∧ chM m (s2 (s2 (s2 (s2 (s2 I m 0 0) m 15 (I m 15 + 1)) (m + 9) q its) (m + 11) q (I m 15 + 1)) (m + 12) p (-1)) I2) := by
  refine Ct.of (by decide) (ble rfl) [some (.ref m), some (.int (nI p)), some (.int its)] rfl ?_
  intro x C M
  obtain ⟨m0, m1, m2, m3, m4, m5, m6, m7, m8, m9, m10, m11, m12, m13, m14, m15, m16, m17, m18, m19, m20, m21, m22, m23, m24, m25, m26, f2, f3, f4, f6, f7, f8, f9, f10, f11, f12, f13, f14, f16, f17, f18, f19, f20, f21, f22, f23, f24, f25, f26, f32, f33, f34⟩ := id hM
  refine v_aload_n C 0 dMo_back_0 rfl rfl ?_
  refine v_iload_n C 1 dMo_back_1 rfl rfl ?_
  refine v_cVi C (c_Mo_isIdle (kl x) (kD x) g I J (nI p) hM) mwMo_isIdle cfMo (by assumption) w802 ws24 w800 rfl rfl (ble rfl) (ble rfl) (ble rfl) (ble rfl) (ble rfl) dMo_back_2 ?_
  rw [idl_0 hp ho hq, if_pos rfl]
  refine v_if_eq C 9 dMo_back_5 (by decide) (fun _ => ?_) (fun h => absurd rfl h)
  have e0 : s2 I m 0 0 m 15 = I m 15 := s2_k (by decide)
  refine v_aload_n C 0 dMo_back_9 rfl rfl ?_
  refine v_dup C dMo_back_10 rfl ?_
  refine v_getiN C cfMo (k := 15) (by assumption) rfl w689 dMo_back_11 (e0) ?_
  refine v_iconst C 1 dMo_back_14 (by decide) ?_
  refine v_iadd C dMo_back_15 ?_
  refine v_puti C cfMo (k := 15) (by assumption) rfl w689 rfl rfl rfl dMo_back_16 ?_
  refine v_aload_n C 0 dMo_back_19 rfl rfl ?_
  refine v_getr C cfMo (k := 11) (by assumption) rfl (by assumption) w685 dMo_back_20 ?_
  refine v_aload_n C 0 dMo_back_23 rfl rfl ?_
  refine v_getr C cfMo (k := 14) (by assumption) rfl (by assumption) w688 dMo_back_24 ?_
  refine v_iload_n C 1 dMo_back_27 rfl rfl ?_
  refine v_ialdN C (q := (p)) (by assumption) (by first | rfl | (simp only [n16I, n2001I, nI_add, pk_mul, nI_1])) (by omega) (by decide) ((show _ = nI q by rw [s2_a (by omega), s2_a (by omega)]; exact ho)) dMo_back_28 ?_
  refine v_iload_n C 2 dMo_back_29 rfl rfl ?_
  refine v_iastN C (q := (q)) (by assumption) (by first | rfl | (simp only [n16I, n2001I, nI_add, pk_mul, nI_1])) (by omega) (by decide) dMo_back_30 ?_
  refine v_aload_n C 0 dMo_back_31 rfl rfl ?_
  refine v_getr C cfMo (k := 13) (by assumption) rfl (by assumption) w687 dMo_back_32 ?_
  refine v_aload_n C 0 dMo_back_35 rfl rfl ?_
  refine v_getr C cfMo (k := 14) (by assumption) rfl (by assumption) w688 dMo_back_36 ?_
  refine v_iload_n C 1 dMo_back_39 rfl rfl ?_
  refine v_ialdN C (q := (p)) (by assumption) (by first | rfl | (simp only [n16I, n2001I, nI_add, pk_mul, nI_1])) (by omega) (by decide) ((show _ = nI q by rw [s2_a (by omega), s2_a (by omega), s2_a (by omega)]; exact ho)) dMo_back_40 ?_
  refine v_aload_n C 0 dMo_back_41 rfl rfl ?_
  refine v_getiN C cfMo (k := 15) (by assumption) rfl w689 dMo_back_42 ((show _ = I m 15 + 1 by rw [s2_a (by omega), s2_self])) ?_
  refine v_iastN C (q := (q)) (by assumption) (by first | rfl | (simp only [n16I, n2001I, nI_add, pk_mul, nI_1])) (by omega) (by decide) dMo_back_45 ?_
  refine v_aload_n C 0 dMo_back_46 rfl rfl ?_
  refine v_getr C cfMo (k := 14) (by assumption) rfl (by assumption) w688 dMo_back_47 ?_
  refine v_iload_n C 1 dMo_back_50 rfl rfl ?_
  refine v_iconst C (-1) dMo_back_51 (by decide) ?_
  refine v_iastN C (q := (p)) (by assumption) (by first | rfl | (simp only [n16I, n2001I, nI_add, pk_mul, nI_1])) (by omega) (by decide) dMo_back_52 ?_
  refine v_aload_n C 0 dMo_back_53 rfl rfl ?_
  refine v_callV C (c_Mo_change (kl x) (kD x) g _ J hM) mwMo_change cfMo (by assumption) w672 ws22 w670 rfl rfl (ble rfl) (ble rfl) (ble rfl) (ble rfl) (ble rfl) dMo_back_54 ?_
  rintro v g2 I2 J2 ⟨rfl, rfl, rfl, h⟩
  exact v_vret C M dMo_back_57 (ble rfl) (ble rfl) ⟨rfl, rfl, rfl, h⟩
theorem c_Mo_lose (l : Launch) (D : va_G) (g : GM) (I : MI) (J : MJ) {m p q : Nat} (hM : MoAt g m) (hp : p < 8) (ho : I (m + 12) p = nI q) (hq : q < 48) : Ct l yMo_lose bMo_lose 2 none (rmN 1 21) D [.ref m, .int (nI p)] g I J (fun v g2 I2 J2 => v = none ∧ g2 = g ∧ J2 = J ∧ chM m (s2 (s2 (s2 I m 0 0) m 15 (I m 15 + 1)) (m + 12) p (-1)) I2) := by
  refine Ct.of (by decide) (ble rfl) [some (.ref m), some (.int (nI p))] rfl ?_
  intro x C M
  obtain ⟨m0, m1, m2, m3, m4, m5, m6, m7, m8, m9, m10, m11, m12, m13, m14, m15, m16, m17, m18, m19, m20, m21, m22, m23, m24, m25, m26, f2, f3, f4, f6, f7, f8, f9, f10, f11, f12, f13, f14, f16, f17, f18, f19, f20, f21, f22, f23, f24, f25, f26, f32, f33, f34⟩ := id hM
  refine v_aload_n C 0 dMo_lose_0 rfl rfl ?_
  refine v_iload_n C 1 dMo_lose_1 rfl rfl ?_
  refine v_cVi C (c_Mo_isIdle (kl x) (kD x) g I J (nI p) hM) mwMo_isIdle cfMo (by assumption) w802 ws24 w800 rfl rfl (ble rfl) (ble rfl) (ble rfl) (ble rfl) (ble rfl) dMo_lose_2 ?_
  rw [idl_0 hp ho hq, if_pos rfl]
  refine v_if_eq C 9 dMo_lose_5 (by decide) (fun _ => ?_) (fun h => absurd rfl h)
  have e0 : s2 I m 0 0 m 15 = I m 15 := s2_k (by decide)
  refine v_aload_n C 0 dMo_lose_9 rfl rfl ?_
  refine v_dup C dMo_lose_10 rfl ?_
  refine v_getiN C cfMo (k := 15) (by assumption) rfl w689 dMo_lose_11 (e0) ?_
  refine v_iconst C 1 dMo_lose_14 (by decide) ?_
  refine v_iadd C dMo_lose_15 ?_
  refine v_puti C cfMo (k := 15) (by assumption) rfl w689 rfl rfl rfl dMo_lose_16 ?_
  refine v_aload_n C 0 dMo_lose_19 rfl rfl ?_
  refine v_getr C cfMo (k := 14) (by assumption) rfl (by assumption) w688 dMo_lose_20 ?_
  refine v_iload_n C 1 dMo_lose_23 rfl rfl ?_
  refine v_iconst C (-1) dMo_lose_24 (by decide) ?_
  refine v_iastN C (q := (p)) (by assumption) (by first | rfl | (simp only [n16I, n2001I, nI_add, pk_mul, nI_1])) (by omega) (by decide) dMo_lose_25 ?_
  refine v_aload_n C 0 dMo_lose_26 rfl rfl ?_
  refine v_callV C (c_Mo_change (kl x) (kD x) g _ J hM) mwMo_change cfMo (by assumption) w672 ws22 w670 rfl rfl (ble rfl) (ble rfl) (ble rfl) (ble rfl) (ble rfl) dMo_lose_27 ?_
  rintro v g2 I2 J2 ⟨rfl, rfl, rfl, h⟩
  exact v_vret C M dMo_lose_30 (ble rfl) (ble rfl) ⟨rfl, rfl, rfl, h⟩
/-- what is thrown at a call -/
abbrev clW (no : Nat) (p k which : Int32) : Prop := p < 0 ∨ 7 < p ∨ noOb no k ∨ which < 0
def clT (I : MI) (m no : Nat) (p k which : Int32) : Int32 := if clW no p k which then 1 else if (if I (m + 1) (ix k) = 0 then 4 else 2) < which then 1 else if 0 ≤ I (m + 12) (ix p) then 2 else 0
def clM (I : MI) (m q k n : Nat) (p : Nat) (which a b : Int32) : MI :=
  s2 (s2 (s2 (s2 (s2 (s2 (s2 (s2 (s2 (s2 (s2 (s2 (s2 I m 0 0) m 15 (I m 15 + 1)) m 5 (nI (q + 1))) (m + 4) q (nI p)) (m + 5) q (nI k)) (m + 6) q which) (m + 7) q a) (m + 8) q b) (m + 10) q (I m 15 + 1)) (m + 11) q 0) (m + 3) (16 * k + n) (nI q)) (m + 2) k (nI (n + 1))) (m + 12) p (nI q)
