def pnQ (g : GM) (I : MI) (J : MJ) (a : Nat) (sb : Nat → Nat) (d : RD) (placed : Int64) (rc : Nat → Nat) (len : Nat) : Option Value → GM → MI → MJ → Prop := fun v g2 I2 J2 => g2 = g ∧ rsame a (dno d) sb I J I2 J2 ∧ I2 a = I a ∧ (fstC (cnd d placed rc) (dnp d) 0 = none ∧ v = some (.int (-1)) ∧ I2 (a + 15) = I (a + 15) ∧ I2 (a + 16) = I (a + 16) ∧ I2 (a + 17) = I (a + 17) ∨ ∃ i t res, fstC (cnd d placed rc) (dnp d) 0 = some (i, t, res) ∧ v = some (.int (nI i)) ∧ i < dnp d ∧ t < (dX d (dow d i)).1 ∧ I2 (a + 17) = upF (I (a + 17)) (dow d i) (nI t) ∧ I2 (a + 15) = upF (I (a + 15)) len (nI i) ∧ I2 (a + 16) = upF (I (a + 16)) len res)
theorem s2_upF {α : Type} (f : Nat → Nat → α) (a k : Nat) (v : α) : s2 f a k v a = upF (f a) k v := by
  rw [s2_row]
  rfl
set_option maxHeartbeats 8000000 in
theorem c_LH_placeNext (l : Launch) (D : va_G) (g : GM) (I : MI) (J : MJ) {a len : Nat} {sb cnt : Nat → Nat} {d : RD} {rc : Nat → Nat} (placed : Int64) (hA : LHAt g a) (hR : RW g a sb cnt d I J) (hrc : rcOK a d rc I) (hlen : I a 9 = nI len) (hlen2 : len < 48) : Ct l yLH_placeNext bLH_placeNext 8 (some .int) (rmN 5 123) D [.ref a, .long placed] g I J (pnQ g I J a sb d placed rc len) := by
  refine Ct.of (by decide) (ble rfl) [some (.ref a), some (.long placed), none, none, none, none, none, none] rfl ?_
  intro x C M
  obtain ⟨a0, a1, a2, a3, a4, a5, hS, a15, a16, a17, r0, r1, r2, r3, r4, r5, r6, r7, r8⟩ := id hA
  have hW := hR.1
  have h6 := hW.1
  have h48 := hR.2.2.2.1
  have hau : ∀ k, k < dno d → a + 18 ≤ sb k := fun k hk => (hW.2.1 k hk).2.2
  have hlc : (nI len).toNatClampNeg = len := nI_clamp (by omega)
  have hli : vp_in (nI len) 48 := vp_in_nI hlen2 (by decide)
  refine v_iconst C 0 dLH_placeNext_0 (by decide) ?_
  refine v_istore_n C 3 dLH_placeNext_1 rfl (ble rfl) rfl ?_
  have loop : ∀ (m i : Nat) (Ic : MI) (Jc : MJ), i + m = dnp d → fstC (cnd d placed rc) m i = fstC (cnd d placed rc) (dnp d) 0 → (∀ b, (∀ k, k < dno d → b ≠ sb k + 2 + 6) → Ic b = I b) → (∀ b, (∀ k, k < dno d → b ≠ sb k + 2 + 6) → Jc b = J b) → V x g 0 0 Ic Jc 2 [some (.ref a), some (.long placed), none, some (.int (nI i)), none, none, none, none] [] := by
    intro m
    induction m with
    | zero =>
      intro i Ic Jc h1 he e1 e2
      have eb : ∀ b, b < a + 18 → Ic b = I b := fun b hb => e1 b (fun k hk => by have := hau k hk; omega)
      refine v_iload_n C 3 dLH_placeNext_2 rfl rfl ?_
      refine v_aload_n C 0 dLH_placeNext_3 rfl rfl ?_
      refine v_geti C cfLH (k := 12) (by assumption) rfl w123 dLH_placeNext_4 ?_
      rw [eb a (by omega), hR.2.2.1]
      refine v_icmp_ge C 160 dLH_placeNext_7 (by decide) (fun _ => ?_) (fun h => absurd (nI_le (by omega) (by omega)) h)
      refine v_iconst C (-1) dLH_placeNext_160 (by decide) ?_
      refine v_iret C M dLH_placeNext_161 (ble rfl) (ble rfl) ⟨rfl, ⟨fun b _ _ _ _ hb => e1 b hb, fun q _ _ => by rw [eb a (by omega)], e2⟩, eb a (by omega), Or.inl ⟨by rw [← he]; rfl, rfl, eb _ (by omega), eb _ (by omega), eb _ (by omega)⟩⟩
    | succ m ih =>
      intro i Ic Jc h1 he e1 e2
      have hi : i < dnp d := by omega
      have eb : ∀ b, b < a + 18 → Ic b = I b := fun b hb => e1 b (fun k hk => by have := hau k hk; omega)
      have ej : ∀ b, b < a + 18 → Jc b = J b := fun b hb => e2 b (fun k hk => by have := hau k hk; omega)
      have hic : (nI i).toNatClampNeg = i := nI_clamp (by omega)
      have hii : vp_in (nI i) 48 := vp_in_nI (by omega) (by decide)
      have hRc : RW g a sb cnt d Ic Jc := hR.same ⟨fun b _ _ _ _ hb => e1 b hb, fun q _ _ => by rw [eb a (by omega)], e2⟩
      obtain ⟨o1, o2, o3, o4, o5⟩ := hRc.2.2.2.2.1 i hi
      have next : ∀ (I4 : MI) (J4 : MJ) (z4 z5 z6 z7 : Option Value), (∀ b, (∀ k, k < dno d → b ≠ sb k + 2 + 6) → I4 b = I b) → (∀ b, (∀ k, k < dno d → b ≠ sb k + 2 + 6) → J4 b = J b) → cnd d placed rc i = none → V x g 0 0 I4 J4 154 [some (.ref a), some (.long placed), none, some (.int (nI i)), z4, z5, z6, z7] [] := by
        intro I4 J4 z4 z5 z6 z7 q1 q2 q3
        refine v_iinc C (nI (i + 1)) dLH_placeNext_154 rfl (nI_1 i) (ble rfl) rfl ?_
        refine v_goto C 2 dLH_placeNext_157 (by decide) ?_
        refine V.drop (lv2 := [some (.ref a), some (.long placed), none, some (.int (nI (i + 1))), none, none, none, none]) ?_ ⟨rfl, rfl, rfl, trivial⟩
        refine ih (i + 1) I4 J4 (by omega) ?_ q1 q2
        rw [← he]
        simp only [fstC, q3]
      refine v_iload_n C 3 dLH_placeNext_2 rfl rfl ?_
      refine v_aload_n C 0 dLH_placeNext_3 rfl rfl ?_
      refine v_geti C cfLH (k := 12) (by assumption) rfl w123 dLH_placeNext_4 ?_
      rw [eb a (by omega), hR.2.2.1]
      refine v_icmp_ge C 160 dLH_placeNext_7 (by decide) (fun h => absurd h (nI_ge hi (by omega))) (fun _ => ?_)
      refine v_lload_n C 1 dLH_placeNext_10 rfl rfl ?_
      refine v_iload_n C 3 dLH_placeNext_11 rfl rfl ?_
      refine v_lushr C dLH_placeNext_12 ?_
      refine v_lconst C 1 dLH_placeNext_13 (by decide) ?_
      refine v_land C dLH_placeNext_14 ?_
      refine v_lconst C 0 dLH_placeNext_15 (by decide) ?_
      refine v_lcmp C dLH_placeNext_16 ?_
      have at25 : ∀ z : Int32, (z = 0 ↔ jushr placed (nI i) &&& 1 = 0) → V x g 0 0 Ic Jc 25 [some (.ref a), some (.long placed), none, some (.int (nI i)), none, none, none, none] [.int z] := by
        intro z hz
        refine v_istore C dLH_placeNext_25 (ble rfl) rfl ?_
        refine v_iload C dLH_placeNext_27 rfl ?_
        by_cases hz0 : z = 0
        · rw [hz0]
          refine v_if_ne C 154 dLH_placeNext_29 (by decide) (fun h => absurd rfl h) (fun _ => ?_)
          have hbit := hz.mp hz0
          refine v_aload_n C 0 dLH_placeNext_32 rfl rfl ?_
          refine v_getr C cfLH (k := 3) (by assumption) rfl (by assumption) w114 dLH_placeNext_33 ?_
          refine v_iload_n C 3 dLH_placeNext_36 rfl rfl ?_
          refine v_lald C (by assumption) (by assumption) dLH_placeNext_37 ?_
          refine v_lload_n C 1 dLH_placeNext_38 rfl rfl ?_
          refine v_ldc2 C w623 dLH_placeNext_39 ?_
          refine v_lxor C dLH_placeNext_42 ?_
          refine v_land C dLH_placeNext_43 ?_
          refine v_lconst C 0 dLH_placeNext_44 (by decide) ?_
          refine v_lcmp C dLH_placeNext_45 ?_
          rw [hic, o5]
          by_cases her : der d i &&& (placed ^^^ (-1)) = 0
          · rw [her]
            refine v_if_eq C 52 dLH_placeNext_46 (by decide) (fun _ => ?_) (fun h => absurd (by decide) h)
            refine v_aload_n C 0 dLH_placeNext_52 rfl rfl ?_
            refine v_getr C cfLH (k := 1) (by assumption) rfl (by assumption) w112 dLH_placeNext_53 ?_
            refine v_iload_n C 3 dLH_placeNext_56 rfl rfl ?_
            refine v_iald C (by assumption) (by assumption) dLH_placeNext_57 ?_
            rw [hic, o1]
            obtain ⟨q1, hU, hauk⟩ := hW.2.1 _ o2
            obtain ⟨u0, hO, hSp, u11, u12, u13, ur0, ur1, ur2, ur3, ur4⟩ := id hU
            obtain ⟨s0, hTa, s6, s7, s8, sr0, sr1, sr2, sr3⟩ := id hSp
            obtain ⟨f1, f2, f3, f4, f5, f6, f7, f8⟩ := hRc.2.2.2.2.2 _ o2
            have hbk := f5.1
            obtain ⟨g1, g2⟩ := hrc _ o2
            have hkc : (nI (dow d i)).toNatClampNeg = dow d i := nI_clamp (by omega)
            have hki : vp_in (nI (dow d i)) 6 := vp_in_nI (by omega) (by decide)
            have hf2 : rc (dow d i) < 2000 := by omega
            obtain ⟨m9, sz9, kg⟩ := f5.2 _ g2
            have ek := (f4.2 _ g2).1
            have ew := (f4.2 _ g2).2.1
            have estp : stp (opE Ic (sb (dow d i))) (Ic (sb (dow d i)) 5) (Ic (sb (dow d i) + 2) 6) (Ic (sb (dow d i) + 2) 7) (Ic (sb (dow d i) + 2 + 1 + 1) (rc (dow d i))) (Jc (sb (dow d i) + 2 + 1 + 2) (rc (dow d i))) (dpl d i) = stp (dE d (dow d i)) (dkd d (dow d i)) (drt d (dow d i)) 0 ((dX d (dow d i)).2.1 (rc (dow d i))) ((dX d (dow d i)).2.2.1 (rc (dow d i))) (dpl d i) := by
              rw [ek, ew, f2, f6, f7]
              exact stp_congr o4 (fun i q hi => f1 i q hi)
            refine v_istore C dLH_placeNext_58 (ble rfl) rfl ?_
            refine v_aload_n C 0 dLH_placeNext_60 rfl rfl ?_
            refine v_iload C dLH_placeNext_61 rfl ?_
            refine v_cVr C (c_LH_subjectOf (kl x) (kD x) g Ic Jc hA hRc.2.1 h6 o2 q1) mwLH_subjectOf cfLH (by assumption) w171 ws0 w169 rfl rfl (ble rfl) (ble rfl) (ble rfl) (ble rfl) (ble rfl) dLH_placeNext_63 ?_
            refine v_astore C dLH_placeNext_66 (ble rfl) rfl ?_
            refine v_aload C dLH_placeNext_68 rfl ?_
            refine v_getr C cfSu (k := 1) (by assumption) rfl (by assumption) w387 dLH_placeNext_70 ?_
            refine v_aload C dLH_placeNext_73 rfl ?_
            refine v_aload_n C 0 dLH_placeNext_75 rfl rfl ?_
            refine v_getr C cfLH (k := 8) (by assumption) rfl (by assumption) w119 dLH_placeNext_76 ?_
            refine v_iload C dLH_placeNext_79 rfl ?_
            refine v_iald C (by assumption) (by assumption) dLH_placeNext_81 ?_
            rw [hkc, eb (a + 17) (by omega), g1]
            refine v_aload_n C 0 dLH_placeNext_82 rfl rfl ?_
            refine v_getr C cfLH (k := 2) (by assumption) rfl (by assumption) w113 dLH_placeNext_83 ?_
            refine v_iload_n C 3 dLH_placeNext_86 rfl rfl ?_
            refine v_iald C (by assumption) (by assumption) dLH_placeNext_87 ?_
            rw [hic, o3]
            refine v_callV C (c_Sp_target (kl x) (kD x) g Ic Jc hSp hU hf2 o4 (by rw [ek]; exact kg.1.size) kg.1.2.2 f4.1) mwSp_target cfSp (by assumption) w607 w608 w624 rfl rfl (ble rfl) (ble rfl) (ble rfl) (ble rfl) (ble rfl) dLH_placeNext_88 ?_
            rintro v g3 I3 J3 ⟨rfl, ho, hc⟩
            rw [estp] at hc
            have p1 : ∀ b, (∀ k, k < dno d → b ≠ sb k + 2 + 6) → I3 b = I b := fun b hb => by rw [ho.1 b (hb _ o2)]; exact e1 b hb
            have p2 : ∀ b, (∀ k, k < dno d → b ≠ sb k + 2 + 6) → J3 b = J b := fun b hb => by rw [ho.2 b (hb _ o2)]; exact e2 b hb
            rcases hc with ⟨c1, rfl⟩ | ⟨c, c1, hv, c3⟩
            · refine v_istore C dLH_placeNext_91 (ble rfl) rfl ?_
              refine v_iload C dLH_placeNext_93 rfl ?_
              refine v_iconst C (-1) dLH_placeNext_95 (by decide) ?_
              refine v_icmp_eq C 154 dLH_placeNext_96 (by decide) (fun _ => ?_) (fun h => absurd rfl h)
              exact next I3 J3 _ _ _ _ p1 p2 (by unfold cnd; rw [if_pos ⟨hbit, her⟩, c1])
            · rw [lk_mem f4, ek] at hv
              subst hv
              refine v_istore C dLH_placeNext_91 (ble rfl) rfl ?_
              refine v_iload C dLH_placeNext_93 rfl ?_
              refine v_iconst C (-1) dLH_placeNext_95 (by decide) ?_
              rcases lk_spec (dX d (dow d i)).2.1 (dX d (dow d i)).2.2.1 (keyB ((dX d (dow d i)).2.1 (rc (dow d i))) (dpl d i) c.2.1) c.1 (dX d (dow d i)).1 with ⟨n1, n2⟩ | ⟨t, n1, n2, n3⟩
              · rw [n1]
                refine v_icmp_eq C 154 dLH_placeNext_96 (by decide) (fun _ => ?_) (fun h => absurd rfl h)
                exact next I3 J3 _ _ _ _ p1 p2 (by unfold cnd; rw [if_pos ⟨hbit, her⟩, c1]; show (if _ then _ else _) = _; rw [if_pos n1])
              · have hne : ¬ nI t = -1 := fun e => by have h0 := nI_pos (n := t) (by omega); rw [e] at h0; exact h0 (by decide)
                have htc : (nI t).toNatClampNeg = t := nI_clamp (by omega)
                have hti : vp_in (nI t) 2000 := vp_in_nI (by omega) (by decide)
                rw [n2]
                refine v_icmp_eq C 154 dLH_placeNext_96 (by decide) (fun h => absurd h hne) (fun _ => ?_)
                refine v_aload C dLH_placeNext_99 rfl ?_
                refine v_getr C cfSu (k := 1) (by assumption) rfl (by assumption) w387 dLH_placeNext_101 ?_
                refine v_getr C cfSp (k := 3) (by assumption) rfl (by assumption) w85 dLH_placeNext_104 ?_
                refine v_iload C dLH_placeNext_107 rfl ?_
                refine v_zald C (by assumption) (by assumption) dLH_placeNext_109 ?_
                have eh : I3 (sb (dow d i) + 2 + 8) (nI t).toNatClampNeg = dhp d (dow d i) t := by
                  rw [htc, ho.1 _ (by omega)]
                  exact f8 t
                rw [eh]
                by_cases hh : dhp d (dow d i) t = 0
                · rw [hh]
                  refine v_if_eq C 154 dLH_placeNext_110 (by decide) (fun _ => ?_) (fun h => absurd rfl h)
                  refine next I3 J3 _ _ _ _ p1 p2 ?_
                  unfold cnd
                  rw [if_pos ⟨hbit, her⟩, c1]
                  show (if _ then _ else if _ then _ else _) = _
                  rw [if_neg (by rw [n2]; exact hne), if_pos (by rw [n2]; show dhp d _ (nI t).toNatClampNeg = 0; rw [htc]; exact hh)]
                · refine v_if_eq C 154 dLH_placeNext_110 (by decide) (fun h => absurd h hh) (fun _ => ?_)
                  have eb3 : ∀ b, b < a + 18 → I3 b = I b := fun b hb => p1 b (fun k hk => by have := hau k hk; omega)
                  refine v_aload_n C 0 dLH_placeNext_113 rfl rfl ?_
                  refine v_getr C cfLH (k := 8) (by assumption) rfl (by assumption) w119 dLH_placeNext_114 ?_
                  refine v_iload C dLH_placeNext_117 rfl ?_
                  refine v_iload C dLH_placeNext_119 rfl ?_
                  refine v_iast C (by assumption) (by assumption) dLH_placeNext_121 ?_
                  rw [hkc]
                  refine v_aload_n C 0 dLH_placeNext_122 rfl rfl ?_
                  refine v_getr C cfLH (k := 6) (by assumption) rfl (by assumption) w117 dLH_placeNext_123 ?_
                  refine v_aload_n C 0 dLH_placeNext_126 rfl rfl ?_
                  refine v_geti C cfLH (k := 9) (by assumption) rfl w120 dLH_placeNext_127 ?_
                  rw [s2_a (show a ≠ a + 17 by omega), eb3 a (by omega), hlen]
                  refine v_iload_n C 3 dLH_placeNext_130 rfl rfl ?_
                  refine v_iast C (by assumption) (by assumption) dLH_placeNext_131 ?_
                  rw [hlc]
                  refine v_aload_n C 0 dLH_placeNext_132 rfl rfl ?_
                  refine v_getr C cfLH (k := 7) (by assumption) rfl (by assumption) w118 dLH_placeNext_133 ?_
                  refine v_aload_n C 0 dLH_placeNext_136 rfl rfl ?_
                  refine v_geti C cfLH (k := 9) (by assumption) rfl w120 dLH_placeNext_137 ?_
                  rw [s2_a (show a ≠ a + 15 by omega), s2_a (show a ≠ a + 17 by omega), eb3 a (by omega), hlen]
                  refine v_aload C dLH_placeNext_140 rfl ?_
                  refine v_getr C cfSu (k := 1) (by assumption) rfl (by assumption) w387 dLH_placeNext_142 ?_
                  refine v_getr C cfSp (k := 1) (by assumption) rfl (by assumption) w82 dLH_placeNext_145 ?_
                  refine v_geti C cfSt (k := 2) (by assumption) rfl w71 dLH_placeNext_148 ?_
                  rw [s2_a (show sb (dow d i) + 2 + 6 ≠ a + 15 by omega), s2_a (show sb (dow d i) + 2 + 6 ≠ a + 17 by omega), c3]
                  refine v_iast C (by assumption) (by assumption) dLH_placeNext_151 ?_
                  rw [hlc]
                  refine v_iload_n C 3 dLH_placeNext_152 rfl rfl ?_
                  have hcnd : cnd d placed rc i = some (t, c.2.2) := by
                    unfold cnd
                    rw [if_pos ⟨hbit, her⟩, c1]
                    show (if _ then _ else if _ then _ else _) = _
                    have ei : ix (lk (dX d (dow d i)).2.1 (dX d (dow d i)).2.2.1 (keyB ((dX d (dow d i)).2.1 (rc (dow d i))) (dpl d i) c.2.1) c.1 (dX d (dow d i)).1) = t := by rw [n2]; exact htc
                    rw [if_neg (by rw [n2]; exact hne), ei, if_neg hh]
                  refine v_iret C M dLH_placeNext_153 (ble rfl) (ble rfl) ⟨rfl, ⟨fun b b1 b2 b3 b4 b5 => ?_, fun q _ _ => ?_, p2⟩, ?_, Or.inr ⟨i, t, c.2.2, ?_, rfl, hi, n1, ?_, ?_, ?_⟩⟩
                  · rw [s2_off b3, s2_off b2, s2_off b4]
                    exact p1 b b5
                  · rw [s2_a (by omega), s2_a (by omega), s2_a (by omega), eb3 a (by omega)]
                  · rw [s2_off (by omega), s2_off (by omega), s2_off (by omega), eb3 a (by omega)]
                  · rw [← he]
                    simp only [fstC, hcnd]
                  · rw [s2_off (by omega), s2_off (by omega), s2_upF, eb3 (a + 17) (by omega)]
                  · rw [s2_off (by omega), s2_upF, s2_off (by omega), eb3 (a + 15) (by omega)]
                  · rw [s2_upF, s2_off (by omega), s2_off (by omega), eb3 (a + 16) (by omega)]
          · refine v_if_eq C 52 dLH_placeNext_46 (by decide) (fun h => absurd h (fun h => her (lcmp0.mp h))) (fun _ => ?_)
            refine v_goto C 154 dLH_placeNext_49 (by decide) ?_
            exact next Ic Jc _ _ _ _ e1 e2 (by unfold cnd; rw [if_neg (fun h => her h.2)])
        · refine v_if_ne C 154 dLH_placeNext_29 (by decide) (fun _ => ?_) (fun h => absurd h hz0)
          exact next Ic Jc _ _ _ _ e1 e2 (by unfold cnd; rw [if_neg (fun h => hz0 (hz.mpr h.1))])
      refine v_if_eq C 24 dLH_placeNext_17 (by decide) (fun c17 => ?_) (fun c17 => ?_)
      · refine v_iconst C 0 dLH_placeNext_24 (by decide) ?_
        exact at25 0 ⟨fun _ => lcmp0.mp c17, fun _ => rfl⟩
      · refine v_iconst C 1 dLH_placeNext_20 (by decide) ?_
        refine v_goto C 25 dLH_placeNext_21 (by decide) ?_
        exact at25 1 ⟨fun h => absurd h (by decide), fun h => absurd (lcmp0.mpr h) c17⟩
  exact loop (dnp d) 0 I J (by omega) rfl (fun _ _ => rfl) (fun _ _ => rfl)
def mhQ (g : GM) (I : MI) (J : MJ) (a no : Nat) (sb cnt : Nat → Nat) (I2 : MI) (J2 : MJ) : Prop := (∀ k, k < no → SI I2 J2 (sb k) (cnt k) ∧ lsame (sb k) I J I2 J2 ∧ I2 (sb k) = I (sb k) ∧ I2 (sb k + 2) 4 = 1) ∧ ∀ b, (∀ k, k < no → b < sb k ∨ sb k + 30 ≤ b) → I2 b = I b ∧ J2 b = J b
