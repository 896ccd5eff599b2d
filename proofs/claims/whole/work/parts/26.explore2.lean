set_option maxHeartbeats 4000000 in
theorem c_Sp_explore (l : Launch) (D : va_G) (g : GM) (I : MI) (J : MJ) {s u cnt : Nat} (ret own : Int32) (hS : SpAt g s) (hU : SuAt g u) (hcnt : cnt ≤ 16) (how : own = 0 ∨ own = 1) : Ct l ySp_explore bSp_explore 9 (some .boolean) (rmN 4 100) D [.ref s, .ref u, .int (nI cnt), .int ret, .int own] g I J (expQ g I J s u cnt ret own) := by
  refine Ct.of (by decide) (ble rfl) [some (.ref s), some (.ref u), some (.int (nI cnt)), some (.int ret), some (.int own), none, none, none, none] rfl ?_
  intro x C M
  obtain ⟨s0, hT, s6, s7, s8, sr0, sr1, sr2, sr3⟩ := id hS
  have t0 := hT.1
  obtain ⟨u0, hO, -⟩ := id hU
  have hnw : narrow .boolean (.int own) = .int own := by rcases how with rfl | rfl <;> rfl
  have hft : fits .boolean (.int own) = true := by rcases how with rfl | rfl <;> rfl
  have ou := sp_out hS u0 (by decide)
  have oo : ∀ i, i < 16 → u + 14 + i < s ∨ s + 9 ≤ u + 14 + i := fun i hi => sp_out hS (hO.2 i hi).2 (by decide)
  refine v_aload_n C 0 dSp_explore_0 rfl rfl ?_
  refine v_iload_n C 2 dSp_explore_1 rfl rfl ?_
  refine v_puti C cfSp (k := 5) (by assumption) rfl w87 rfl rfl rfl dSp_explore_2 ?_
  refine v_aload_n C 0 dSp_explore_5 rfl rfl ?_
  refine v_iload_n C 3 dSp_explore_6 rfl rfl ?_
  refine v_puti C cfSp (k := 6) (by assumption) rfl w88 rfl rfl rfl dSp_explore_7 ?_
  refine v_aload_n C 0 dSp_explore_10 rfl rfl ?_
  refine v_iload C dSp_explore_11 rfl ?_
  refine v_puti C cfSp (k := 7) (by assumption) rfl w89 rfl (by first | rfl | assumption) (by first | rfl | assumption) dSp_explore_13 ?_
  refine v_aload_n C 0 dSp_explore_16 rfl rfl ?_
  refine v_iconst C 0 dSp_explore_17 (by decide) ?_
  refine v_puti C cfSp (k := 4) (by assumption) rfl w86 rfl (by first | rfl | assumption) (by first | rfl | assumption) dSp_explore_18 ?_
  refine v_aload_n C 0 dSp_explore_21 rfl rfl ?_
  refine v_getr C cfSp (k := 0) (by assumption) rfl (by assumption) w79 dSp_explore_22 ?_
  generalize eI : s2 (s2 (s2 (s2 I s 5 (nI cnt)) s 6 ret) s 7 own) s 4 0 = I1
  have q4 : I1 s 4 = 0 := by rw [← eI, s2_self]
  have q7 : I1 s 7 = own := by rw [← eI, s2_k (by decide), s2_self]
  have q6 : I1 s 6 = ret := by rw [← eI, s2_k (by decide), s2_k (by decide), s2_self]
  have q5 : I1 s 5 = nI cnt := by rw [← eI, s2_k (by decide), s2_k (by decide), s2_k (by decide), s2_self]
  have qo : ∀ b, b ≠ s → I1 b = I b := fun b hb => by rw [← eI, s2_off hb, s2_off hb, s2_off hb, s2_off hb]
  refine v_callV C (c_Ta_makeEmpty (kl x) (kD x) g I1 J hT) mwTa_makeEmpty cfTa (by assumption) w250 w251 w249 rfl rfl (ble rfl) (ble rfl) (ble rfl) (ble rfl) (ble rfl) dSp_explore_25 ?_
  rintro v g2 I2 J2 ⟨rfl, rfl, rfl, m1, m2⟩
  refine v_aload_n C 0 dSp_explore_28 rfl rfl ?_
  refine v_getr C cfSp (k := 0) (by assumption) rfl (by assumption) w79 dSp_explore_29 ?_
  refine v_iconst C 0 dSp_explore_32 (by decide) ?_
  refine v_lconst C 0 dSp_explore_33 (by decide) ?_
  refine v_callV C (c_Ta_keep (kl x) (kD x) g2 I2 J2 0 0 hT m1) mwTa_keep cfTa (by assumption) w255 w256 w254 rfl rfl (ble rfl) (ble rfl) (ble rfl) (ble rfl) (ble rfl) dSp_explore_34 ?_
  rintro v g3 I3 J3 ⟨rfl, hk⟩
  rcases hk with ⟨h1, -⟩ | ⟨-, -, rfl, r1, r2, r3, r4, r5, r6, r7⟩
  · rcases h1 with h1 | h1
    · exact absurd rfl h1
    · exact absurd h1 (by decide)
  refine v_pop C dSp_explore_37 rfl ?_
  refine v_aload_n C 0 dSp_explore_38 rfl rfl ?_
  refine v_getr C cfSp (k := 2) (by assumption) rfl (by assumption) w83 dSp_explore_39 ?_
  refine v_iconst C 0 dSp_explore_42 (by decide) ?_
  refine v_lconst C 1 dSp_explore_43 (by decide) ?_
  have hv0 : vp_in 0 2000 := vp_in_nI (n := 0) (N := 2000) (by decide) (by decide)
  refine v_last C (by assumption) (by assumption) dSp_explore_44 ?_
  refine v_iconst C 0 dSp_explore_45 (by decide) ?_
  refine v_istore C dSp_explore_46 (ble rfl) rfl ?_
  have base : XM I J2 s cnt ret own X0 I3 (s2 J3 (s + 7) (ix 0) 1) := by
    refine ⟨⟨r1.off (fun _ _ _ => rfl) (s2_off (by omega)), fun i hi => ?_⟩, ⟨by decide, fun i hi => ?_⟩, ?_, ?_, ?_, ?_, fun b hb => ?_, fun b hb => ?_⟩
    · have h0 : i = 0 := by
        have hi : i < 1 := hi
        omega
      subst h0
      refine ⟨r2, by rw [s2_a (by omega)]; exact r3, ?_⟩
      exact s2_self _ _ _ _
    · exact ⟨0, 0, ⟨⟨rfl, by decide, by decide⟩, Nat.zero_le _⟩⟩
    · rw [r6 s (by omega), m2 s (by omega)]; exact q4
    · rw [r6 s (by omega), m2 s (by omega)]; exact q5
    · rw [r6 s (by omega), m2 s (by omega)]; exact q6
    · rw [r6 s (by omega), m2 s (by omega)]; exact q7
    · rw [r6 b (by omega), m2 b (by omega)]; exact qo b (by omega)
    · rw [s2_off (by omega), r7 b (by omega)]
  -- the loops
  have inner : ∀ (m p f : Nat) (X : XS) (Ic : MI) (Jc : MJ), p + m = cnt → f < X.1 → XM I J2 s cnt ret own X Ic Jc → (∀ X2 I5 J5, xpls (opE I u) (I u 5) ret own f m p X = some X2 → XM I J2 s cnt ret own X2 I5 J5 → V x g3 0 0 I5 J5 181 [some (.ref s), some (.ref u), some (.int (nI cnt)), some (.int ret), some (.int own), some (.int (nI f)), none, none, none] []) → (xpls (opE I u) (I u 5) ret own f m p X = none → xrun (opE I u) (I u 5) ret own cnt = none) → V x g3 0 0 Ic Jc 71 [some (.ref s), some (.ref u), some (.int (nI cnt)), some (.int ret), some (.int own), some (.int (nI f)), some (.int (nI p)), none, none] [] := by
    intro m
    induction m with
    | zero =>
      intro p f X Ic Jc h1 hf hX hk hno
      refine v_iload C dSp_explore_71 rfl ?_
      refine v_aload_n C 0 dSp_explore_73 rfl rfl ?_
      refine v_geti C cfSp (k := 5) (by assumption) rfl w87 dSp_explore_74 ?_
      rw [hX.2.2.2.1]
      refine v_icmp_ge C 181 dSp_explore_77 (by decide) (fun _ => ?_) (fun h => absurd (nI_le (by omega) (by omega)) h)
      exact (hk X Ic Jc rfl hX).drop ⟨rfl, rfl, rfl, rfl, rfl, rfl, trivial⟩
    | succ m ih =>
      intro p f X Ic Jc h1 hf hX hk hno
      have hp : p < 16 := by omega
      have hb := hX.2.1.1
      have hf2 : f < 2000 := by omega
      have hfc : (nI f).toNatClampNeg = f := nI_clamp (by omega)
      have hfi : vp_in (nI f) 2000 := vp_in_nI hf2 (by decide)
      refine v_iload C dSp_explore_71 rfl ?_
      refine v_aload_n C 0 dSp_explore_73 rfl rfl ?_
      refine v_geti C cfSp (k := 5) (by assumption) rfl w87 dSp_explore_74 ?_
      rw [hX.2.2.2.1]
      refine v_icmp_ge C 181 dSp_explore_77 (by decide) (fun h => absurd h (nI_ge (by omega) (by omega))) (fun _ => ?_)
      obtain ⟨km9, ksz, kg⟩ := hX.2.1.2 f hf
      have ek := (hX.1.2 f hf).1
      have ew := (hX.1.2 f hf).2.1
      have estp : stp (opE Ic u) (Ic u 5) (Ic s 6) (Ic s 7) (Ic (s + 1 + 1) f) (Jc (s + 1 + 2) f) p = stp (opE I u) (I u 5) ret own (X.2.1 f) (X.2.2.1 f) p := by
        rw [ek, ew, hX.2.2.2.2.1, hX.2.2.2.2.2.1, hX.2.2.2.2.2.2.1 u ou]
        exact stp_congr hp (fun i k hi => by show Ic _ _ = I _ _; rw [hX.2.2.2.2.2.2.1 _ (oo i hi)])
      have goOn : ∀ (X2 : XS) (I5 : MI) (J5 : MJ) (z7 z8 : Option Value), xpl (opE I u) (I u 5) ret own f p X = some X2 → XM I J2 s cnt ret own X2 I5 J5 → V x g3 0 0 I5 J5 175 [some (.ref s), some (.ref u), some (.int (nI cnt)), some (.int ret), some (.int own), some (.int (nI f)), some (.int (nI p)), z7, z8] [] := by
        intro X2 I5 J5 z7 z8 e1 hX2
        refine v_iinc C (nI (p + 1)) dSp_explore_175 rfl (nI_1 p) (ble rfl) rfl ?_
        refine v_goto C 71 dSp_explore_178 (by decide) ?_
        have hle := (xpl_inv hX.2.1 hf hp e1).2
        refine V.drop (lv2 := [some (.ref s), some (.ref u), some (.int (nI cnt)), some (.int ret), some (.int own), some (.int (nI f)), some (.int (nI (p + 1))), none, none]) ?_ ⟨rfl, rfl, rfl, rfl, rfl, rfl, rfl, trivial⟩
        refine ih (p + 1) f X2 I5 J5 (by omega) (by omega) hX2 (fun X3 I6 J6 e2 h2 => hk X3 I6 J6 ?_ h2) (fun e2 => hno ?_)
        · simp only [xpls, e1]
          exact e2
        · simp only [xpls, e1]
          exact e2
      refine v_aload_n C 0 dSp_explore_80 rfl rfl ?_
      refine v_aload_n C 1 dSp_explore_81 rfl rfl ?_
      refine v_iload C dSp_explore_82 rfl ?_
      refine v_iload C dSp_explore_84 rfl ?_
      refine v_callV C (c_Sp_step (kl x) (kD x) g3 Ic Jc hS hU hf2 hp (by rw [ek]; exact kg.1.size) kg.1.2.2) mwSp_step cfSp (by assumption) w270 ws4 w268 rfl rfl (ble rfl) (ble rfl) (ble rfl) (ble rfl) (ble rfl) dSp_explore_86 ?_
      rintro v g4 I4 J4 ⟨rfl, ho, h⟩
      rw [estp] at h
      have hX4 : XM I J2 s cnt ret own X I4 J4 := ⟨hX.1.offA ho, hX.2.1, by rw [ho.1 s (by omega)]; exact hX.2.2.1, by rw [ho.1 s (by omega)]; exact hX.2.2.2.1, by rw [ho.1 s (by omega)]; exact hX.2.2.2.2.1, by rw [ho.1 s (by omega)]; exact hX.2.2.2.2.2.1, fun b hb => by rw [ho.1 b (by omega)]; exact hX.2.2.2.2.2.2.1 b hb, fun b hb => by rw [ho.2 b (by omega)]; exact hX.2.2.2.2.2.2.2 b hb⟩
      rcases h with ⟨e1, rfl⟩ | ⟨c, e1, rfl, e2, e3, e4⟩
      · refine v_if_ne C 95 dSp_explore_89 (by decide) (fun h => absurd (by decide) h) (fun _ => ?_)
        refine v_goto C 175 dSp_explore_92 (by decide) ?_
        exact goOn X I4 J4 none none (by unfold xpl; rw [e1]) hX4
      · refine v_if_ne C 95 dSp_explore_89 (by decide) (fun _ => ?_) (fun h => absurd h (by decide))
        obtain ⟨sz2, z1, z2, z3⟩ := stp_key hp kg e1
        refine v_aload_n C 0 dSp_explore_95 rfl rfl ?_
        refine v_getr C cfSp (k := 0) (by assumption) rfl (by assumption) w79 dSp_explore_96 ?_
        refine v_geti C cfTa (k := 4) (by assumption) rfl w44 dSp_explore_99 ?_
        rw [hX4.1.1.2.1]
        refine v_istore C dSp_explore_102 (ble rfl) rfl ?_
        refine v_aload_n C 0 dSp_explore_104 rfl rfl ?_
        refine v_getr C cfSp (k := 0) (by assumption) rfl (by assumption) w79 dSp_explore_105 ?_
        refine v_aload_n C 0 dSp_explore_108 rfl rfl ?_
        refine v_iload C dSp_explore_109 rfl ?_
        refine v_iload C dSp_explore_111 rfl ?_
        refine v_cVi C (c_Sp_keyBehind (kl x) (kD x) _ I4 J4 p hS hf2) mwSp_keyBehind cfSp (by assumption) w314 ws12 w312 rfl rfl (ble rfl) (ble rfl) (ble rfl) (ble rfl) (ble rfl) dSp_explore_113 ?_
        rw [e3, (hX4.1.2 f hf).1]
        refine v_aload_n C 0 dSp_explore_116 rfl rfl ?_
        refine v_getr C cfSp (k := 1) (by assumption) rfl (by assumption) w81 dSp_explore_117 ?_
        refine v_getl C cfSt (k := 0) (by assumption) rfl w66 dSp_explore_120 ?_
        rw [e2]
        refine v_callV C (c_Ta_keep (kl x) (kD x) _ I4 J4 _ _ hT hX4.1.1) mwTa_keep cfTa (by assumption) w255 w256 w254 rfl rfl (ble rfl) (ble rfl) (ble rfl) (ble rfl) (ble rfl) dSp_explore_123 ?_
        rintro v g5 I5 J5 ⟨rfl, hq⟩
        rw [lk_mem hX4.1] at hq
        have exl : xpl (opE I u) (I u 5) ret own f p X = xadd X f (keyB (X.2.1 f) p c.2.1) c.1 := by
          unfold xpl
          rw [e1]
        rcases hq with ⟨h1, rfl, rfl, rfl⟩ | ⟨h1, h2, rfl, hR⟩
        · rcases lk_spec X.2.1 X.2.2.1 (keyB (X.2.1 f) p c.2.1) c.1 X.1 with ⟨n1, n2⟩ | ⟨i, n1, n2, n3⟩
          · rw [n1]
            refine v_istore C dSp_explore_126 (ble rfl) rfl ?_
            refine v_iload C dSp_explore_128 rfl ?_
            refine v_iconst C (-1) dSp_explore_130 (by decide) ?_
            refine v_icmp_ne C 136 dSp_explore_131 (by decide) (fun h => absurd rfl h) (fun _ => ?_)
            refine v_iconst C 0 dSp_explore_134 (by decide) ?_
            have hnone : xpls (opE I u) (I u 5) ret own f (m + 1) p X = none := by
              have e5 : xadd X f (keyB (X.2.1 f) p c.2.1) c.1 = none := by
                unfold xadd
                rw [if_pos n1, if_neg]
                rcases h1 with h1 | h1
                · exact absurd n1 h1
                · omega
              simp only [xpls, exl, e5]
            exact v_zret C M (by first | exact Or.inl rfl | exact Or.inr rfl | assumption) dSp_explore_135 (ble rfl) (ble rfl) ⟨rfl, Or.inl ⟨hno hnone, rfl, hX4.2.2.2.2.2.2⟩⟩
          · rw [n2]
            have hii : vp_in (nI i) 2000 := vp_in_nI (by omega) (by decide)
            have hic : (nI i).toNatClampNeg = i := nI_clamp (by omega)
            refine v_istore C dSp_explore_126 (ble rfl) rfl ?_
            refine v_iload C dSp_explore_128 rfl ?_
            refine v_iconst C (-1) dSp_explore_130 (by decide) ?_
            refine v_icmp_ne C 136 dSp_explore_131 (by decide) (fun _ => ?_) (fun h => absurd h (fun e => by have h0 := nI_pos (n := i) (by omega); rw [e] at h0; exact h0 (by decide)))
            refine v_aload_n C 0 dSp_explore_136 rfl rfl ?_
            refine v_getr C cfSp (k := 2) (by assumption) rfl (by assumption) w83 dSp_explore_137 ?_
            refine v_iload C dSp_explore_140 rfl ?_
            refine v_iload C dSp_explore_142 rfl ?_
            refine v_iload C dSp_explore_144 rfl ?_
            refine v_icmp_ne C 159 dSp_explore_146 (by decide) (fun _ => ?_) (fun h => absurd h (fun e => by have h0 := (nI_eq (by omega) (by omega)).mp e; omega))
            refine v_aload_n C 0 dSp_explore_159 rfl rfl ?_
            refine v_getr C cfSp (k := 2) (by assumption) rfl (by assumption) w83 dSp_explore_160 ?_
            refine v_iload C dSp_explore_163 rfl ?_
            refine v_lald C (by assumption) (by assumption) dSp_explore_165 ?_
            rw [hic]
            refine v_aload_n C 0 dSp_explore_166 rfl rfl ?_
            refine v_getr C cfSp (k := 2) (by assumption) rfl (by assumption) w83 dSp_explore_167 ?_
            refine v_iload C dSp_explore_170 rfl ?_
            refine v_lald C (by assumption) (by assumption) dSp_explore_172 ?_
            rw [hfc]
            refine v_ladd C dSp_explore_173 ?_
            refine v_last C (by assumption) (by assumption) dSp_explore_174 ?_
            rw [hic]
            obtain ⟨a1, a2⟩ := xadd_old hX4 hf n1 n2
            exact goOn _ _ _ _ _ (exl.trans a1) a2
        · have hii : vp_in (nI X.1) 2000 := vp_in_nI h2 (by decide)
          have hic : (nI X.1).toNatClampNeg = X.1 := nI_clamp (by omega)
          refine v_istore C dSp_explore_126 (ble rfl) rfl ?_
          refine v_iload C dSp_explore_128 rfl ?_
          refine v_iconst C (-1) dSp_explore_130 (by decide) ?_
          refine v_icmp_ne C 136 dSp_explore_131 (by decide) (fun _ => ?_) (fun h => absurd h (fun e => by have h0 := nI_pos (n := X.1) (by omega); rw [e] at h0; exact h0 (by decide)))
          refine v_aload_n C 0 dSp_explore_136 rfl rfl ?_
          refine v_getr C cfSp (k := 2) (by assumption) rfl (by assumption) w83 dSp_explore_137 ?_
          refine v_iload C dSp_explore_140 rfl ?_
          refine v_iload C dSp_explore_142 rfl ?_
          refine v_iload C dSp_explore_144 rfl ?_
          refine v_icmp_ne C 159 dSp_explore_146 (by decide) (fun h => absurd rfl h) (fun _ => ?_)
          refine v_aload_n C 0 dSp_explore_149 rfl rfl ?_
          refine v_getr C cfSp (k := 2) (by assumption) rfl (by assumption) w83 dSp_explore_150 ?_
          refine v_iload C dSp_explore_153 rfl ?_
          refine v_lald C (by assumption) (by assumption) dSp_explore_155 ?_
          rw [hfc]
          refine v_goto C 174 dSp_explore_156 (by decide) ?_
          refine v_last C (by assumption) (by assumption) dSp_explore_174 ?_
          rw [hic]
          obtain ⟨a1, a2⟩ := xadd_new hX4 hf z3 h1 h2 hR
          exact goOn _ _ _ _ _ (exl.trans a1) a2
  have outer : ∀ (m f : Nat) (X : XS) (Ic : MI) (Jc : MJ), f + m = 2000 → XM I J2 s cnt ret own X Ic Jc → xfs (opE I u) (I u 5) ret own cnt m f X = xrun (opE I u) (I u 5) ret own cnt → V x g3 0 0 Ic Jc 48 [some (.ref s), some (.ref u), some (.int (nI cnt)), some (.int ret), some (.int own), some (.int (nI f)), none, none, none] [] := by
    intro m
    induction m with
    | zero =>
      intro f X Ic Jc h1 hX he
      refine v_iload C dSp_explore_48 rfl ?_
      refine v_sipush C 2000 dSp_explore_50 (by decide) ?_
      refine v_icmp_ge C 187 dSp_explore_53 (by decide) (fun _ => ?_) (fun h => absurd (nI_le (a := 2000) (by omega) (by omega)) h)
      refine v_iconst C 1 dSp_explore_187 (by decide) ?_
      exact v_zret C M (by first | exact Or.inl rfl | exact Or.inr rfl | assumption) dSp_explore_188 (ble rfl) (ble rfl) ⟨rfl, Or.inr ⟨X, he.symm, rfl, hX⟩⟩
    | succ m ih =>
      intro f X Ic Jc h1 hX he
      have hb := hX.2.1.1
      refine v_iload C dSp_explore_48 rfl ?_
      refine v_sipush C 2000 dSp_explore_50 (by decide) ?_
      refine v_icmp_ge C 187 dSp_explore_53 (by decide) (fun h => absurd h (nI_ge (b := 2000) (by omega) (by decide))) (fun _ => ?_)
      refine v_iload C dSp_explore_56 rfl ?_
      refine v_aload_n C 0 dSp_explore_58 rfl rfl ?_
      refine v_getr C cfSp (k := 0) (by assumption) rfl (by assumption) w79 dSp_explore_59 ?_
      refine v_geti C cfTa (k := 4) (by assumption) rfl w44 dSp_explore_62 ?_
      rw [hX.1.1.2.1]
      by_cases hf : f < X.1
      · refine v_icmp_ge C 187 dSp_explore_65 (by decide) (fun h => absurd h (nI_ge hf (by omega))) (fun _ => ?_)
        refine v_iconst C 0 dSp_explore_68 (by decide) ?_
        refine v_istore C dSp_explore_69 (ble rfl) rfl ?_
        refine inner cnt 0 f X Ic Jc (by omega) hf hX (fun X2 I5 J5 e2 h2 => ?_) (fun e2 => ?_)
        · refine v_iinc C (nI (f + 1)) dSp_explore_181 rfl (nI_1 f) (ble rfl) rfl ?_
          refine v_goto C 48 dSp_explore_184 (by decide) ?_
          refine ih (f + 1) X2 I5 J5 (by omega) h2 ?_
          rw [← he]
          simp only [xfs, if_pos hf, e2]
        · rw [← he]
          simp only [xfs, if_pos hf, e2]
      · refine v_icmp_ge C 187 dSp_explore_65 (by decide) (fun _ => ?_) (fun h => absurd (nI_le (by omega) (by omega)) h)
        refine v_iconst C 1 dSp_explore_187 (by decide) ?_
        refine v_zret C M (Or.inr rfl) dSp_explore_188 (ble rfl) (ble rfl) ⟨rfl, Or.inr ⟨X, ?_, rfl, hX⟩⟩
        rw [← he]
        simp only [xfs, if_neg hf]
  exact outer 2000 0 X0 _ _ (by omega) base rfl
