def rReg (code a b : Int32) (w : Int64) : Int64 × Int32 :=
  (if code = 1 ∨ code = 2 then a.toInt64 else if code = 3 ∧ w.toInt32 = a then b.toInt64 else if code = 4 then (w.toInt32 + a).toInt64 else w.toInt32.toInt64,
   if code = 1 then 0 else if code = 3 then (if w.toInt32 = a then 1 else 0) else w.toInt32)
theorem c_Mo_doRegister (l : Launch) (D : va_G) (g : GM) (I : MI) (J : MJ) {m : Nat} (code a b : Int32) (hM : MoAt g m) : Ct l yMo_doRegister bMo_doRegister 5 none (rmN 0 0) D [.ref m, .int code, .int a, .int b] g I J (PF none g (s2 I m 29 (rReg code a b (J m 27)).2) (s2 J m 27 (rReg code a b (J m 27)).1)) := by
  refine Ct.of (by decide) (ble rfl) [some (.ref m), some (.int code), some (.int a), some (.int b), none] rfl ?_
  intro x C M
  obtain ⟨m0, m1, m2, m3, m4, m5, m6, m7, m8, m9, m10, m11, m12, m13, m14, m15, m16, m17, m18, m19, m20, m21, m22, m23, m24, m25, m26, f2, f3, f4, f6, f7, f8, f9, f10, f11, f12, f13, f14, f16, f17, f18, f19, f20, f21, f22, f23, f24, f25, f26, f32, f33, f34⟩ := id hM
  refine v_aload_n C 0 dMo_doRegister_0 rfl rfl ?_
  refine v_getl C cfMo (k := 27) (by assumption) rfl w701 dMo_doRegister_1 ?_
  refine v_l2i C dMo_doRegister_4 ?_
  refine v_istore C dMo_doRegister_5 (ble rfl) rfl ?_
  refine v_aload_n C 0 dMo_doRegister_7 rfl rfl ?_
  refine v_iload_n C 1 dMo_doRegister_8 rfl rfl ?_
  refine v_iconst C 1 dMo_doRegister_9 (by decide) ?_
  have fin : ∀ (I1 : MI) (w : Int64), I1 = s2 I m 29 (rReg code a b (J m 27)).2 → w = (rReg code a b (J m 27)).1 → V x g 0 0 I1 J 89 [some (.ref m), some (.int code), some (.int a), some (.int b), some (.int (J m 27).toInt32)] [.long w, .ref m] := by
    intro I1 w e1 e2
    refine v_putl C cfMo (k := 27) (by assumption) rfl w701 rfl rfl rfl dMo_doRegister_89 ?_
    exact v_vret C M dMo_doRegister_92 (ble rfl) (ble rfl) (pf_v e1 (by rw [e2]))
  have mid : ∀ t : Int32, t = (rReg code a b (J m 27)).2 → V x g 0 0 I J 38 [some (.ref m), some (.int code), some (.int a), some (.int b), some (.int (J m 27).toInt32)] [.int t, .ref m] := by
    intro t et
    refine v_puti C cfMo (k := 29) (by assumption) rfl w703 rfl rfl rfl dMo_doRegister_38 ?_
    refine v_aload_n C 0 dMo_doRegister_41 rfl rfl ?_
    refine v_iload_n C 1 dMo_doRegister_42 rfl rfl ?_
    refine v_iconst C 1 dMo_doRegister_43 (by decide) ?_
    refine v_icmp_eq C 52 dMo_doRegister_44 (by decide) (fun c44 => ?_) (fun c44 => ?_)
    · refine v_iload_n C 2 dMo_doRegister_52 rfl rfl ?_
      refine v_i2l C dMo_doRegister_53 ?_
      refine v_goto C 89 dMo_doRegister_54 (by decide) ?_
      exact fin _ _ (by rw [et]) (by unfold rReg; rw [if_pos (Or.inl c44)])
    · refine v_iload_n C 1 dMo_doRegister_47 rfl rfl ?_
      refine v_iconst C 2 dMo_doRegister_48 (by decide) ?_
      refine v_icmp_ne C 57 dMo_doRegister_49 (by decide) (fun c49 => ?_) (fun c49 => ?_)
      · have h12 : ¬ (code = 1 ∨ code = 2) := by
          rintro (h | h)
          · exact c44 h
          · exact c49 h
        have last : ¬ (code = 3 ∧ (J m 27).toInt32 = a) → V x g 0 0 (s2 I m 29 t) J 73 [some (.ref m), some (.int code), some (.int a), some (.int b), some (.int (J m 27).toInt32)] [.ref m] := by
          intro h3
          refine v_iload_n C 1 dMo_doRegister_73 rfl rfl ?_
          refine v_iconst C 4 dMo_doRegister_74 (by decide) ?_
          refine v_icmp_ne C 86 dMo_doRegister_75 (by decide) (fun c75 => ?_) (fun c75 => ?_)
          · refine v_iload C dMo_doRegister_86 rfl ?_
            refine v_i2l C dMo_doRegister_88 ?_
            exact fin _ _ (by rw [et]) (by unfold rReg; rw [if_neg h12, if_neg h3, if_neg c75])
          · refine v_iload C dMo_doRegister_78 rfl ?_
            refine v_iload_n C 2 dMo_doRegister_80 rfl rfl ?_
            refine v_iadd C dMo_doRegister_81 ?_
            refine v_i2l C dMo_doRegister_82 ?_
            refine v_goto C 89 dMo_doRegister_83 (by decide) ?_
            exact fin _ _ (by rw [et]) (by unfold rReg; rw [if_neg h12, if_neg h3, if_pos c75])
        refine v_iload_n C 1 dMo_doRegister_57 rfl rfl ?_
        refine v_iconst C 3 dMo_doRegister_58 (by decide) ?_
        refine v_icmp_ne C 73 dMo_doRegister_59 (by decide) (fun c59 => ?_) (fun c59 => ?_)
        · exact last (fun h => c59 h.1)
        · refine v_iload C dMo_doRegister_62 rfl ?_
          refine v_iload_n C 2 dMo_doRegister_64 rfl rfl ?_
          refine v_icmp_ne C 73 dMo_doRegister_65 (by decide) (fun c65 => ?_) (fun c65 => ?_)
          · exact last (fun h => c65 h.2)
          · refine v_iload_n C 3 dMo_doRegister_68 rfl rfl ?_
            refine v_i2l C dMo_doRegister_69 ?_
            refine v_goto C 89 dMo_doRegister_70 (by decide) ?_
            exact fin _ _ (by rw [et]) (by unfold rReg; rw [if_neg h12, if_pos ⟨c59, c65⟩])
      · refine v_iload_n C 2 dMo_doRegister_52 rfl rfl ?_
        refine v_i2l C dMo_doRegister_53 ?_
        refine v_goto C 89 dMo_doRegister_54 (by decide) ?_
        exact fin _ _ (by rw [et]) (by unfold rReg; rw [if_pos (Or.inr c49)])
  refine v_icmp_ne C 17 dMo_doRegister_10 (by decide) (fun c10 => ?_) (fun c10 => ?_)
  · refine v_iload_n C 1 dMo_doRegister_17 rfl rfl ?_
    refine v_iconst C 3 dMo_doRegister_18 (by decide) ?_
    refine v_icmp_ne C 36 dMo_doRegister_19 (by decide) (fun c19 => ?_) (fun c19 => ?_)
    · refine v_iload C dMo_doRegister_36 rfl ?_
      exact mid _ (by unfold rReg; show _ = (if _ then _ else _); rw [if_neg c10, if_neg c19])
    · refine v_iload C dMo_doRegister_22 rfl ?_
      refine v_iload_n C 2 dMo_doRegister_24 rfl rfl ?_
      refine v_icmp_ne C 32 dMo_doRegister_25 (by decide) (fun c25 => ?_) (fun c25 => ?_)
      · refine v_iconst C 0 dMo_doRegister_32 (by decide) ?_
        refine v_goto C 38 dMo_doRegister_33 (by decide) ?_
        exact mid _ (by unfold rReg; show _ = (if _ then _ else _); rw [if_neg c10, if_pos c19, if_neg c25])
      · refine v_iconst C 1 dMo_doRegister_28 (by decide) ?_
        refine v_goto C 38 dMo_doRegister_29 (by decide) ?_
        exact mid _ (by unfold rReg; show _ = (if _ then _ else _); rw [if_neg c10, if_pos c19, if_pos c25])
  · refine v_iconst C 0 dMo_doRegister_13 (by decide) ?_
    refine v_goto C 38 dMo_doRegister_14 (by decide) ?_
    exact mid _ (by unfold rReg; show _ = (if _ then _ else _); rw [if_pos c10])
theorem c_Mo_doSet (l : Launch) (D : va_G) (g : GM) (I : MI) (J : MJ) {m k i : Nat} {L : Nat → Nat} (code : Int32) (hM : MoAt g m) (hL : LsOK I m L) (hk : k < 6) (hi : i < 16) : Ct l yMo_doSet bMo_doSet 7 none (rmN 1 23) D [.ref m, .int (nI k), .int (nI i), .int code] g I J (PF none g (s2 I m 29 (chSet code (nI (nmF (fun j => rE I m L k j 7) (rE I m L k i 7) i 0)) (J m 27)).2) (s2 J m 27 (chSet code (nI (nmF (fun j => rE I m L k j 7) (rE I m L k i 7) i 0)) (J m 27)).1)) := by
  refine Ct.of (by decide) (ble rfl) [some (.ref m), some (.int (nI k)), some (.int (nI i)), some (.int code), none, none, none] rfl ?_
  intro x C M
  obtain ⟨m0, m1, m2, m3, m4, m5, m6, m7, m8, m9, m10, m11, m12, m13, m14, m15, m16, m17, m18, m19, m20, m21, m22, m23, m24, m25, m26, f2, f3, f4, f6, f7, f8, f9, f10, f11, f12, f13, f14, f16, f17, f18, f19, f20, f21, f22, f23, f24, f25, f26, f32, f33, f34⟩ := id hM
  refine v_lconst C 1 dMo_doSet_0 (by decide) ?_
  refine v_aload_n C 0 dMo_doSet_1 rfl rfl ?_
  refine v_iload_n C 1 dMo_doSet_2 rfl rfl ?_
  refine v_iload_n C 2 dMo_doSet_3 rfl rfl ?_
  refine v_cVi C (c_Mo_likeFirst (kl x) (kD x) g I J hM hL hk hi) mwMo_likeFirst cfMo (by assumption) w854 ws33 w852 rfl rfl (ble rfl) (ble rfl) (ble rfl) (ble rfl) (ble rfl) dMo_doSet_4 ?_
  generalize en : nI (nmF (fun j => rE I m L k j 7) (rE I m L k i 7) i 0) = nm
  refine v_lshl C dMo_doSet_7 ?_
  refine v_lstore C dMo_doSet_8 (ble rfl) rfl ?_
  refine v_aload_n C 0 dMo_doSet_10 rfl rfl ?_
  refine v_getl C cfMo (k := 27) (by assumption) rfl w701 dMo_doSet_11 ?_
  refine v_lload C dMo_doSet_14 rfl ?_
  refine v_land C dMo_doSet_16 ?_
  refine v_lconst C 0 dMo_doSet_17 (by decide) ?_
  refine v_lcmp C dMo_doSet_18 ?_
  have fin : ∀ (I1 : MI) (w : Int64) (z : Option Value), I1 = s2 I m 29 (chSet code nm (J m 27)).2 → w = (chSet code nm (J m 27)).1 → V x g 0 0 I1 J 98 [some (.ref m), some (.int (nI k)), some (.int (nI i)), some (.int code), some (.long (jshl 1 nm)), none, z] [.long w, .ref m] := by
    intro I1 w z e1 e2
    refine v_putl C cfMo (k := 27) (by assumption) rfl w701 rfl rfl rfl dMo_doSet_98 ?_
    exact v_vret C M dMo_doSet_101 (ble rfl) (ble rfl) (pf_v (by rw [en]; exact e1) (by rw [en, e2]))
  have mid : ∀ (t : Int32) (z : Option Value), t = (chSet code nm (J m 27)).2 → V x g 0 0 I J 57 [some (.ref m), some (.int (nI k)), some (.int (nI i)), some (.int code), some (.long (jshl 1 nm)), none, z] [.int t, .ref m] := by
    intro t z et
    refine v_puti C cfMo (k := 29) (by assumption) rfl w703 rfl rfl rfl dMo_doSet_57 ?_
    refine v_aload_n C 0 dMo_doSet_60 rfl rfl ?_
    refine v_iload_n C 3 dMo_doSet_61 rfl rfl ?_
    refine v_if_ne C 75 dMo_doSet_62 (by decide) (fun c62 => ?_) (fun c62 => ?_)
    · refine v_iload_n C 3 dMo_doSet_75 rfl rfl ?_
      refine v_iconst C 1 dMo_doSet_76 (by decide) ?_
      refine v_icmp_ne C 94 dMo_doSet_77 (by decide) (fun c77 => ?_) (fun c77 => ?_)
      · refine v_aload_n C 0 dMo_doSet_94 rfl rfl ?_
        refine v_getl C cfMo (k := 27) (by assumption) rfl w701 dMo_doSet_95 ?_
        exact fin _ _ _ (by rw [et]) (by unfold chSet; rw [if_neg c62, if_neg c77])
      · refine v_aload_n C 0 dMo_doSet_80 rfl rfl ?_
        refine v_getl C cfMo (k := 27) (by assumption) rfl w701 dMo_doSet_81 ?_
        refine v_lload C dMo_doSet_84 rfl ?_
        refine v_ldc2 C w856 dMo_doSet_86 ?_
        refine v_lxor C dMo_doSet_89 ?_
        refine v_land C dMo_doSet_90 ?_
        refine v_goto C 98 dMo_doSet_91 (by decide) ?_
        exact fin _ _ _ (by rw [et]) (by unfold chSet; rw [if_neg c62, if_pos c77])
    · refine v_aload_n C 0 dMo_doSet_65 rfl rfl ?_
      refine v_getl C cfMo (k := 27) (by assumption) rfl w701 dMo_doSet_66 ?_
      refine v_lload C dMo_doSet_69 rfl ?_
      refine v_lor C dMo_doSet_71 ?_
      refine v_goto C 98 dMo_doSet_72 (by decide) ?_
      exact fin _ _ _ (by rw [et]) (by unfold chSet; rw [if_pos c62])
  have key : ∀ z : Int32, z = (if J m 27 &&& jshl 1 nm = 0 then 0 else 1) → V x g 0 0 I J 27 [some (.ref m), some (.int (nI k)), some (.int (nI i)), some (.int code), some (.long (jshl 1 nm)), none, none] [.int z] := by
    intro z ez
    refine v_istore C dMo_doSet_27 (ble rfl) rfl ?_
    refine v_aload_n C 0 dMo_doSet_29 rfl rfl ?_
    refine v_iload_n C 3 dMo_doSet_30 rfl rfl ?_
    refine v_if_ne C 47 dMo_doSet_31 (by decide) (fun c31 => ?_) (fun c31 => ?_)
    · refine v_iload C dMo_doSet_47 rfl ?_
      refine v_if_eq C 56 dMo_doSet_49 (by decide) (fun c49 => ?_) (fun c49 => ?_)
      · refine v_iconst C 0 dMo_doSet_56 (by decide) ?_
        exact mid _ _ (by rw [ez] at c49; unfold chSet; rw [if_neg c31]; split <;> (split at c49 <;> simp_all))
      · refine v_iconst C 1 dMo_doSet_52 (by decide) ?_
        refine v_goto C 57 dMo_doSet_53 (by decide) ?_
        exact mid _ _ (by rw [ez] at c49; unfold chSet; rw [if_neg c31]; split <;> (split at c49 <;> simp_all))
    · refine v_iload C dMo_doSet_34 rfl ?_
      refine v_if_eq C 43 dMo_doSet_36 (by decide) (fun c36 => ?_) (fun c36 => ?_)
      · refine v_iconst C 1 dMo_doSet_43 (by decide) ?_
        refine v_goto C 57 dMo_doSet_44 (by decide) ?_
        exact mid _ _ (by rw [ez] at c36; unfold chSet; rw [if_pos c31]; split at c36 <;> simp_all)
      · refine v_iconst C 0 dMo_doSet_39 (by decide) ?_
        refine v_goto C 57 dMo_doSet_40 (by decide) ?_
        exact mid _ _ (by rw [ez] at c36; unfold chSet; rw [if_pos c31]; split at c36 <;> simp_all)
  refine v_if_eq C 26 dMo_doSet_19 (by decide) (fun c19 => ?_) (fun c19 => ?_)
  · refine v_iconst C 0 dMo_doSet_26 (by decide) ?_
    have c19 : J m 27 &&& jshl 1 nm = 0 := lcmp0.mp c19
    exact key 0 (by rw [if_pos c19])
  · refine v_iconst C 1 dMo_doSet_22 (by decide) ?_
    refine v_goto C 27 dMo_doSet_23 (by decide) ?_
    have c19 : ¬ J m 27 &&& jshl 1 nm = 0 := fun h => c19 (lcmp0.mpr h)
    exact key 1 (by rw [if_neg c19])
def rmH (a : Int32) (w : Int64) : Int32 := (jushr w (5 * (a &&& 7)) &&& 31).toInt32
def rMap (code a b nm : Int32) (bv : Nat → Int32) (w : Int64) : Int64 × Int32 :=
  (let w1 := if code = 1 then w else w &&& (jshl 31 (5 * (a &&& 7)) ^^^ (-1))
   if code = 0 ∧ b ≠ NOTH then w1 ||| jshl (nm + 1).toInt64 (5 * (a &&& 7)) else w1,
   if rmH a w = 0 then NOTH else bv (ix (rmH a w - 1)))
theorem c_Mo_doMap (l : Launch) (D : va_G) (g : GM) (I : MI) (J : MJ) {m k i f : Nat} {L : Nat → Nat} (code : Int32) (hM : MoAt g m) (hL : LsOK I m L) (hk : k < 6) (hi : i < 16) (hf : rmH (rE I m L k i 7) (J m 27) = nI f) (hf2 : f ≤ 16) : Ct l yMo_doMap bMo_doMap 7 none (rmN 1 23) D [.ref m, .int (nI k), .int (nI i), .int code] g I J (PF none g (s2 I m 29 (rMap code (rE I m L k i 7) (rE I m L k i 8) (nI (nmF (fun j => rE I m L k j 8) (rE I m L k i 8) i 0)) (fun j => rE I m L k j 8) (J m 27)).2) (s2 J m 27 (rMap code (rE I m L k i 7) (rE I m L k i 8) (nI (nmF (fun j => rE I m L k j 8) (rE I m L k i 8) i 0)) (fun j => rE I m L k j 8) (J m 27)).1)) := by
  refine Ct.of (by decide) (ble rfl) [some (.ref m), some (.int (nI k)), some (.int (nI i)), some (.int code), none, none, none] rfl ?_
  intro x C M
  obtain ⟨m0, m1, m2, m3, m4, m5, m6, m7, m8, m9, m10, m11, m12, m13, m14, m15, m16, m17, m18, m19, m20, m21, m22, m23, m24, m25, m26, f2, f3, f4, f6, f7, f8, f9, f10, f11, f12, f13, f14, f16, f17, f18, f19, f20, f21, f22, f23, f24, f25, f26, f32, f33, f34⟩ := id hM
  have hl : ∀ j, j < 16 → I (m + 3) (16 * k + j) = nI (L (16 * k + j)) ∧ L (16 * k + j) < 48 := fun j hj => hL _ (by omega)
  have hli := (hl i hi).2
  refine v_aload_n C 0 dMo_doMap_0 rfl rfl ?_
  refine v_getr C cfMo (k := 4) (by assumption) rfl (by assumption) w678 dMo_doMap_1 ?_
  refine v_bipush C 16 dMo_doMap_4 (by decide) ?_
  refine v_iload_n C 1 dMo_doMap_6 rfl rfl ?_
  refine v_imul C dMo_doMap_7 ?_
  refine v_iload_n C 2 dMo_doMap_8 rfl rfl ?_
  refine v_iadd C dMo_doMap_9 ?_
  refine v_ialdN C (q := (16 * k + i)) (by assumption) (by first | rfl | (simp only [n16I, n2001I, nI_add, pk_mul, nI_1])) (by omega) (by decide) ((hl i hi).1) dMo_doMap_10 ?_
  refine v_istore C dMo_doMap_11 (ble rfl) rfl ?_
  refine v_iconst C 5 dMo_doMap_13 (by decide) ?_
  refine v_aload_n C 0 dMo_doMap_14 rfl rfl ?_
  refine v_getr C cfMo (k := 9) (by assumption) rfl (by assumption) w683 dMo_doMap_15 ?_
  refine v_iload C dMo_doMap_18 rfl ?_
  refine v_ialdN C (q := (L (16 * k + i))) (by assumption) (by first | rfl | (simp only [n16I, n2001I, nI_add, pk_mul, nI_1])) (by omega) (by decide) (rfl) dMo_doMap_20 ?_
  refine v_bipush C 7 dMo_doMap_21 (by decide) ?_
  refine v_iand C dMo_doMap_23 ?_
  refine v_imul C dMo_doMap_24 ?_
  refine v_istore C dMo_doMap_25 (ble rfl) rfl ?_
  refine v_aload_n C 0 dMo_doMap_27 rfl rfl ?_
  refine v_getl C cfMo (k := 27) (by assumption) rfl w701 dMo_doMap_28 ?_
  refine v_iload C dMo_doMap_31 rfl ?_
  refine v_lushr C dMo_doMap_33 ?_
  refine v_ldc2 C w861 dMo_doMap_34 ?_
  refine v_land C dMo_doMap_37 ?_
  refine v_l2iN C dMo_doMap_38 (hf) ?_
  generalize eD : rMap code (rE I m L k i 7) (rE I m L k i 8) (nI (nmF (fun j => rE I m L k j 8) (rE I m L k i 8) i 0)) (fun j => rE I m L k j 8) (J m 27) = d
  have fin : ∀ (J1 : MJ) (z : Option Value), J1 = s2 J m 27 d.1 → V x g 0 0 (s2 I m 29 d.2) J1 135 [some (.ref m), some (.int (nI k)), some (.int (nI i)), some (.int code), some (.int (nI (L (16 * k + i)))), some (.int (5 * (rE I m L k i 7 &&& 7))), z] [] := by
    intro J1 z e1
    exact v_vret C M dMo_doMap_135 (ble rfl) (ble rfl) (pf_v (by rw [eD]) (by rw [eD]; exact e1))
  have w1d : ∀ (w1 : Int64) (z : Option Value), w1 = (if code = 1 then J m 27 else J m 27 &&& (jshl 31 (5 * (rE I m L k i 7 &&& 7)) ^^^ (-1))) → V x g 0 0 (s2 I m 29 d.2) (s2 J m 27 w1) 98 [some (.ref m), some (.int (nI k)), some (.int (nI i)), some (.int code), some (.int (nI (L (16 * k + i)))), some (.int (5 * (rE I m L k i 7 &&& 7))), z] [] := by
    intro w1 z e1
    refine v_iload_n C 3 dMo_doMap_98 rfl rfl ?_
    refine v_if_ne C 135 dMo_doMap_99 (by decide) (fun c99 => ?_) (fun c99 => ?_)
    · refine fin _ _ ?_
      rw [← eD, e1]
      unfold rMap
      simp only []
      rw [if_neg (fun h : code = 0 ∧ rE I m L k i 8 ≠ NOTH => c99 h.1)]
    · refine v_aload_n C 0 dMo_doMap_102 rfl rfl ?_
      refine v_getr C cfMo (k := 10) (by assumption) rfl (by assumption) w684 dMo_doMap_103 ?_
      refine v_iload C dMo_doMap_106 rfl ?_
      refine v_ialdN C (q := (L (16 * k + i))) (by assumption) (by first | rfl | (simp only [n16I, n2001I, nI_add, pk_mul, nI_1])) (by omega) (by decide) ((s2_a (by omega))) dMo_doMap_108 ?_
      refine v_ldc C w862 dMo_doMap_109 ?_
      refine v_icmp_eq C 135 dMo_doMap_111 (by decide) (fun c111 => ?_) (fun c111 => ?_)
      · refine fin _ _ ?_
        rw [← eD, e1]
        unfold rMap
        simp only []
        rw [if_neg (fun h : code = 0 ∧ rE I m L k i 8 ≠ NOTH => h.2 c111)]
      · refine v_aload_n C 0 dMo_doMap_114 rfl rfl ?_
        refine v_aload_n C 0 dMo_doMap_115 rfl rfl ?_
        refine v_getlN C cfMo (k := 27) (by assumption) rfl w701 dMo_doMap_116 ((s2_self _ _ _ _)) ?_
        refine v_aload_n C 0 dMo_doMap_119 rfl rfl ?_
        refine v_iload_n C 1 dMo_doMap_120 rfl rfl ?_
        refine v_iload_n C 2 dMo_doMap_121 rfl rfl ?_
        have eI : ∀ f, f ≠ 0 → (fun j => rE (s2 I m 29 d.2) m L k j f) = fun j => rE I m L k j f := fun f hf => by
          funext j
          show s2 I m 29 d.2 (m + f) _ = _
          rw [s2_a (by omega)]
        have hL2 : LsOK (s2 I m 29 d.2) m L := fun q hq => by rw [s2_a (by omega)]; exact hL q hq
        refine v_cVi C (c_Mo_likeSecond (kl x) (kD x) g (s2 I m 29 d.2) (s2 J m 27 w1) hM hL2 hk hi) mwMo_likeSecond cfMo (by assumption) w865 ws35 w863 rfl rfl (ble rfl) (ble rfl) (ble rfl) (ble rfl) (ble rfl) dMo_doMap_122 ?_
        rw [eI 8 (by decide), show rE (s2 I m 29 d.2) m L k i 8 = rE I m L k i 8 from congrFun (eI 8 (by decide)) i]
        refine v_iconst C 1 dMo_doMap_125 (by decide) ?_
        refine v_iadd C dMo_doMap_126 ?_
        refine v_i2l C dMo_doMap_127 ?_
        refine v_iload C dMo_doMap_128 rfl ?_
        refine v_lshl C dMo_doMap_130 ?_
        refine v_lor C dMo_doMap_131 ?_
        refine v_putl C cfMo (k := 27) (by assumption) rfl w701 rfl rfl rfl dMo_doMap_132 ?_
        refine fin _ _ ?_
        rw [s2_s2, ← eD, e1]
        unfold rMap
        simp only []
        rw [if_pos (show code = 0 ∧ rE I m L k i 8 ≠ NOTH from ⟨c99, c111⟩)]
        rfl
  have toldd : ∀ (t : Int32) (z : Option Value), t = d.2 → V x g 0 0 I J 71 [some (.ref m), some (.int (nI k)), some (.int (nI i)), some (.int code), some (.int (nI (L (16 * k + i)))), some (.int (5 * (rE I m L k i 7 &&& 7))), z] [.int t, .ref m] := by
    intro t z et
    rw [et]
    refine v_puti C cfMo (k := 29) (by assumption) rfl w703 rfl rfl rfl dMo_doMap_71 ?_
    refine v_iload_n C 3 dMo_doMap_74 rfl rfl ?_
    refine v_iconst C 1 dMo_doMap_75 (by decide) ?_
    refine v_icmp_eq C 98 dMo_doMap_76 (by decide) (fun c76 => ?_) (fun c76 => ?_)
    · have h := w1d (J m 27) z (by rw [if_pos c76])
      rw [s2_id] at h
      exact h
    · refine v_aload_n C 0 dMo_doMap_79 rfl rfl ?_
      refine v_aload_n C 0 dMo_doMap_80 rfl rfl ?_
      refine v_getl C cfMo (k := 27) (by assumption) rfl w701 dMo_doMap_81 ?_
      refine v_ldc2 C w861 dMo_doMap_84 ?_
      refine v_iload C dMo_doMap_87 rfl ?_
      refine v_lshl C dMo_doMap_89 ?_
      refine v_ldc2 C w856 dMo_doMap_90 ?_
      refine v_lxor C dMo_doMap_93 ?_
      refine v_land C dMo_doMap_94 ?_
      refine v_putl C cfMo (k := 27) (by assumption) rfl w701 rfl rfl rfl dMo_doMap_95 ?_
      exact w1d _ z (by rw [if_neg c76]; rfl)
  refine v_istore C dMo_doMap_39 (ble rfl) rfl ?_
  refine v_aload_n C 0 dMo_doMap_41 rfl rfl ?_
  refine v_iload C dMo_doMap_42 rfl ?_
  by_cases h0 : f = 0
  · subst h0
    refine v_if_ne C 52 dMo_doMap_44 (by decide) (fun h => absurd nI_0 h) (fun _ => ?_)
    refine v_ldc C w862 dMo_doMap_47 ?_
    refine v_goto C 71 dMo_doMap_49 (by decide) ?_
    exact toldd _ _ (by rw [← eD]; unfold rMap; show _ = (if _ then _ else _); rw [if_pos (hf.trans nI_0)]; rfl)
  · refine v_if_ne C 52 dMo_doMap_44 (by decide) (fun _ => ?_) (fun h => absurd h (nI_ne0 (by omega) (by omega)))
    obtain ⟨f2, rfl⟩ : ∃ f2, f = f2 + 1 := ⟨f - 1, by omega⟩
    have hl2 := (hl f2 (by omega)).2
    refine v_aload_n C 0 dMo_doMap_52 rfl rfl ?_
    refine v_getr C cfMo (k := 10) (by assumption) rfl (by assumption) w684 dMo_doMap_53 ?_
    refine v_aload_n C 0 dMo_doMap_56 rfl rfl ?_
    refine v_getr C cfMo (k := 4) (by assumption) rfl (by assumption) w678 dMo_doMap_57 ?_
    refine v_bipush C 16 dMo_doMap_60 (by decide) ?_
    refine v_iload_n C 1 dMo_doMap_62 rfl rfl ?_
    refine v_imul C dMo_doMap_63 ?_
    refine v_iload C dMo_doMap_64 rfl ?_
    refine v_iaddN C dMo_doMap_66 ((show _ = nI (16 * k + f2 + 1) by simp only [n16I, nI_add, pk_mul]; rfl)) ?_
    refine v_iconst C 1 dMo_doMap_67 (by decide) ?_
    refine v_isubN C dMo_doMap_68 ((nI_pred _)) ?_
    refine v_ialdN C (q := (16 * k + f2)) (by assumption) (by first | rfl | (simp only [n16I, n2001I, nI_add, pk_mul, nI_1])) (by omega) (by decide) ((hl f2 (by omega)).1) dMo_doMap_69 ?_
    refine v_ialdN C (q := (L (16 * k + f2))) (by assumption) (by first | rfl | (simp only [n16I, n2001I, nI_add, pk_mul, nI_1])) (by omega) (by decide) (rfl) dMo_doMap_70 ?_
    refine toldd _ _ ?_
    rw [← eD]
    unfold rMap
    show _ = (if _ then _ else _)
    rw [if_neg (by rw [hf]; exact nI_ne0 (by omega) (by omega)), hf, nI_pred]
    show _ = rE I m L k (ix (nI f2)) 8
    have e9 : ix (nI f2) = f2 := nI_clamp (by omega)
    rw [e9]
