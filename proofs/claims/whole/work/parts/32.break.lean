theorem xpl_congr {E E2 : Nat → Nat → Int32} {kind ret own : Int32} {f p : Nat} {X : XS} (hp : p < 16) (h : ∀ i k, i < 16 → E2 i k = E i k) : xpl E2 kind ret own f p X = xpl E kind ret own f p X := by
  unfold xpl
  rw [stp_congr hp h]
theorem xpls_congr {E E2 : Nat → Nat → Int32} {kind ret own : Int32} {f : Nat} (h : ∀ i k, i < 16 → E2 i k = E i k) : ∀ (m p : Nat) (X : XS), p + m ≤ 16 → xpls E2 kind ret own f m p X = xpls E kind ret own f m p X
  | 0, _, _, _ => rfl
  | m + 1, p, X, hp => by
    simp only [xpls]
    rw [xpl_congr (by omega) h]
    cases xpl E kind ret own f p X with
    | none => rfl
    | some X2 => exact xpls_congr h m (p + 1) X2 (by omega)
theorem xfs_congr {E E2 : Nat → Nat → Int32} {kind ret own : Int32} {cnt : Nat} (hc : cnt ≤ 16) (h : ∀ i k, i < 16 → E2 i k = E i k) : ∀ (m f : Nat) (X : XS), xfs E2 kind ret own cnt m f X = xfs E kind ret own cnt m f X
  | 0, _, _ => rfl
  | m + 1, f, X => by
    simp only [xfs]
    rw [xpls_congr h cnt 0 X (by omega)]
    cases xpls E kind ret own f cnt 0 X with
    | none => rfl
    | some X2 =>
      show (if _ then xfs E2 kind ret own cnt m (f + 1) X2 else _) = _
      rw [xfs_congr hc h m (f + 1) X2]
theorem xrun_congr {E E2 : Nat → Nat → Int32} {kind ret own : Int32} {cnt : Nat} (hc : cnt ≤ 16) (h : ∀ i k, i < 16 → E2 i k = E i k) : xrun E2 kind ret own cnt = xrun E kind ret own cnt := xfs_congr hc h _ _ _
def brkAt (E : Nat → Nat → Int32) (kind ret : Int32) (n : Nat) (ev : Int32) : Int32 := match xrun E kind ret 0 n with
  | none => -1
  | some X => if wsum ret X.2.1 X.2.2.2 X.1 = 0 then ev else -1
def brkF (E : Nat → Nat → Int32) (kind : Int32) (bs : Nat → Int32) (cn : Nat → Nat) (be : Nat → Int32) : Nat → Nat → Int32 → Int32
  | 0, _, cur => cur
  | m + 1, i, cur => if cur = -1 then brkF E kind bs cn be m (i + 1) (brkAt E kind (bs i) (cn i) (be i)) else cur
def lrbQ (g : GM) (I : MI) (J : MJ) (u sc n k bl : Nat) (cn : Nat → Nat) : Option Value → GM → MI → MJ → Prop := fun v g2 I2 J2 => v = none ∧ g2 = g ∧ ∃ (I1 : MI) (J1 : MJ) (fr : Nat), lrnQ g I J u sc n none g I1 J1 ∧ fr = (if I1 u 11 = 1 then k else bl) ∧ I2 u 17 = brkF (opE I u) (I u 5) (I (u + 13)) cn (I (u + 11)) (k - fr) fr (I u 17) ∧ I2 u 16 = nI k ∧ (∀ q, q ≠ 16 → q ≠ 17 → I2 u q = I1 u q) ∧ (∀ b, b ≠ u → (b < sc ∨ sc + 9 ≤ b) → I2 b = I1 b) ∧ ∀ b, b < sc ∨ sc + 9 ≤ b → J2 b = J1 b
set_option maxHeartbeats 4000000 in
theorem c_Su_learnBreak (l : Launch) (D : va_G) (g : GM) (I : MI) (J : MJ) {u sc n k bl : Nat} {cn : Nat → Nat} (hU : SuAt g u) (hC : SpAt g sc) (hd : sc + 9 ≤ u ∨ u + 30 ≤ sc) (hn : I u 6 = nI n) (hn2 : n ≤ 16) (hk : I u 7 = nI k) (hk2 : k ≤ 16) (hbl : I u 16 = nI bl) (hbl2 : bl ≤ k) (hcn : ∀ i, i < k → I (u + 12) i = nI (cn i) ∧ cn i ≤ 16) : Ct l ySu_learnBreak bSu_learnBreak 5 none (rmN 6 149) D [.ref u, .ref sc] g I J (lrbQ g I J u sc n k bl cn) := by
  refine Ct.of (by decide) (ble rfl) [some (.ref u), some (.ref sc), none, none, none] rfl ?_
  intro x C M
  obtain ⟨u0, hO, hS, u11, u12, u13, ur0, ur1, ur2, ur3, ur4⟩ := id hU
  obtain ⟨sc0, hTc, -, -, -, scr0, -⟩ := id hC
  refine v_aload_n C 0 dSu_learnBreak_0 rfl rfl ?_
  refine v_aload_n C 1 dSu_learnBreak_1 rfl rfl ?_
  refine v_callV C (c_Su_learn (kl x) (kD x) g I J hU hC hd hn hn2) mwSu_learn cfSu (by assumption) w242 w243 w584 rfl rfl (ble rfl) (ble rfl) (ble rfl) (ble rfl) (ble rfl) dSu_learnBreak_2 ?_
  intro v g1 I1 J1 hq
  have hq0 := hq
  obtain ⟨rfl, rfl, hq⟩ := hq
  have f7 : I1 u 7 = nI k := by
    rcases hq with ⟨-, rfl, rfl⟩ | ⟨-, -, q1, -⟩
    · exact hk
    · rw [q1 7 (by decide) (by decide) (by decide) (by decide)]; exact hk
  have f16 : I1 u 16 = nI bl := by
    rcases hq with ⟨-, rfl, rfl⟩ | ⟨-, -, q1, -⟩
    · exact hbl
    · rw [q1 16 (by decide) (by decide) (by decide) (by decide)]; exact hbl
  have f17 : I1 u 17 = I u 17 := by
    rcases hq with ⟨-, rfl, rfl⟩ | ⟨-, -, q1, -⟩
    · rfl
    · exact q1 17 (by decide) (by decide) (by decide) (by decide)
  have f5 : I1 u 5 = I u 5 := by
    rcases hq with ⟨-, rfl, rfl⟩ | ⟨-, -, q1, -⟩
    · rfl
    · exact q1 5 (by decide) (by decide) (by decide) (by decide)
  have fb : ∀ b, u + 11 ≤ b → b < u + 30 → I1 b = I b := by
    intro b b1 b2
    rcases hq with ⟨-, rfl, rfl⟩ | ⟨-, -, -, -, q1, -⟩
    · rfl
    · exact (q1 b (by omega) (by omega) (by omega)).1
  refine v_aload_n C 0 dSu_learnBreak_5 rfl rfl ?_
  refine v_geti C cfSu (k := 11) (by assumption) rfl w401 dSu_learnBreak_6 ?_
  refine v_iconst C 1 dSu_learnBreak_9 (by decide) ?_
  have fin : ∀ (Ic : MI) (Jc : MJ) (fr : Nat) (z2 z3 z4 : Option Value), fr = (if I1 u 11 = 1 then k else bl) → Ic u 17 = brkF (opE I u) (I u 5) (I (u + 13)) cn (I (u + 11)) (k - fr) fr (I u 17) → (∀ q, q ≠ 17 → Ic u q = I1 u q) → (∀ b, b ≠ u → (b < sc ∨ sc + 9 ≤ b) → Ic b = I1 b) → (∀ b, b < sc ∨ sc + 9 ≤ b → Jc b = J1 b) → V x g1 0 0 Ic Jc 93 [some (.ref u), some (.ref sc), z2, z3, z4] [] := by
    intro Ic Jc fr z2 z3 z4 e1 e2 e3 e4 e5
    refine v_aload_n C 0 dSu_learnBreak_93 rfl rfl ?_
    refine v_aload_n C 0 dSu_learnBreak_94 rfl rfl ?_
    refine v_geti C cfSu (k := 7) (by assumption) rfl w395 dSu_learnBreak_95 ?_
    rw [e3 7 (by decide), f7]
    refine v_puti C cfSu (k := 16) (by assumption) rfl w409 rfl rfl rfl dSu_learnBreak_98 ?_
    refine v_vret C M dSu_learnBreak_101 (ble rfl) (ble rfl) ⟨rfl, rfl, I1, J1, fr, hq0, e1, ?_, s2_self _ _ _ _, fun q q1 q2 => ?_, fun b b1 b2 => ?_, e5⟩
    · rw [s2_k (by decide)]; exact e2
    · rw [s2_k q1]; exact e3 q q2
    · rw [s2_off b1]; exact e4 b b1 b2
  have loop : ∀ (m i fr : Nat) (Ic : MI) (Jc : MJ) (z4 : Option Value), i + m = k → fr = (if I1 u 11 = 1 then k else bl) → brkF (opE I u) (I u 5) (I (u + 13)) cn (I (u + 11)) m i (Ic u 17) = brkF (opE I u) (I u 5) (I (u + 13)) cn (I (u + 11)) (k - fr) fr (I u 17) → (∀ q, q ≠ 17 → Ic u q = I1 u q) → (∀ b, b ≠ u → (b < sc ∨ sc + 9 ≤ b) → Ic b = I1 b) → (∀ b, b < sc ∨ sc + 9 ≤ b → Jc b = J1 b) → V x g1 0 0 Ic Jc 27 [some (.ref u), some (.ref sc), none, some (.int (nI i)), z4] [] := by
    intro m
    induction m with
    | zero =>
      intro i fr Ic Jc z4 h1 e1 e2 e3 e4 e5
      refine v_iload_n C 3 dSu_learnBreak_27 rfl rfl ?_
      refine v_aload_n C 0 dSu_learnBreak_28 rfl rfl ?_
      refine v_geti C cfSu (k := 7) (by assumption) rfl w395 dSu_learnBreak_29 ?_
      rw [e3 7 (by decide), f7]
      refine v_icmp_ge C 93 dSu_learnBreak_32 (by decide) (fun _ => ?_) (fun h => absurd (nI_le (by omega) (by omega)) h)
      exact fin Ic Jc fr _ _ _ e1 e2 e3 e4 e5
    | succ m ih =>
      intro i fr Ic Jc z4 h1 e1 e2 e3 e4 e5
      have hi : i < 16 := by omega
      have hic : (nI i).toNatClampNeg = i := nI_clamp (by omega)
      have hii : vp_in (nI i) 16 := vp_in_nI hi (by decide)
      have g12 : Ic (u + 12) = I (u + 12) := by rw [e4 _ (by omega) (by omega), fb _ (by omega) (by omega)]
      have g13 : Ic (u + 13) = I (u + 13) := by rw [e4 _ (by omega) (by omega), fb _ (by omega) (by omega)]
      have g11 : Ic (u + 11) = I (u + 11) := by rw [e4 _ (by omega) (by omega), fb _ (by omega) (by omega)]
      refine v_iload_n C 3 dSu_learnBreak_27 rfl rfl ?_
      refine v_aload_n C 0 dSu_learnBreak_28 rfl rfl ?_
      refine v_geti C cfSu (k := 7) (by assumption) rfl w395 dSu_learnBreak_29 ?_
      rw [e3 7 (by decide), f7]
      refine v_icmp_ge C 93 dSu_learnBreak_32 (by decide) (fun h => absurd h (nI_ge (by omega) (by omega))) (fun _ => ?_)
      refine v_aload_n C 0 dSu_learnBreak_35 rfl rfl ?_
      refine v_geti C cfSu (k := 17) (by assumption) rfl w410 dSu_learnBreak_36 ?_
      refine v_iconst C (-1) dSu_learnBreak_39 (by decide) ?_
      by_cases hz : Ic u 17 = -1
      · rw [hz]
        refine v_icmp_ne C 93 dSu_learnBreak_40 (by decide) (fun h => absurd rfl h) (fun _ => ?_)
        refine v_aload_n C 1 dSu_learnBreak_43 rfl rfl ?_
        refine v_aload_n C 0 dSu_learnBreak_44 rfl rfl ?_
        refine v_aload_n C 0 dSu_learnBreak_45 rfl rfl ?_
        refine v_getr C cfSu (k := 3) (by assumption) rfl (by assumption) w389 dSu_learnBreak_46 ?_
        refine v_iload_n C 3 dSu_learnBreak_49 rfl rfl ?_
        refine v_iald C (by assumption) (by assumption) dSu_learnBreak_50 ?_
        rw [hic, g12, (hcn i (by omega)).1]
        refine v_aload_n C 0 dSu_learnBreak_51 rfl rfl ?_
        refine v_getr C cfSu (k := 4) (by assumption) rfl (by assumption) w390 dSu_learnBreak_52 ?_
        refine v_iload_n C 3 dSu_learnBreak_55 rfl rfl ?_
        refine v_iald C (by assumption) (by assumption) dSu_learnBreak_56 ?_
        rw [hic, g13]
        refine v_iconst C 0 dSu_learnBreak_57 (by decide) ?_
        refine v_callV C (c_Sp_explore (kl x) (kD x) g1 Ic Jc (I (u + 13) i) 0 hC hU (hcn i (by omega)).2 (Or.inl rfl)) mwSp_explore cfSp (by assumption) w246 w247 w245 rfl rfl (ble rfl) (ble rfl) (ble rfl) (ble rfl) (ble rfl) dSu_learnBreak_58 ?_
        rintro v g2 I2 J2 ⟨rfl, hr⟩
        have eX : xrun (opE Ic u) (Ic u 5) (I (u + 13) i) 0 (cn i) = xrun (opE I u) (I u 5) (I (u + 13) i) 0 (cn i) := by
          rw [e3 5 (by decide), f5]
          exact xrun_congr (hcn i (by omega)).2 (fun q r hq => by show Ic _ _ = I _ _; rw [e4 _ (by omega) (by omega), fb _ (by omega) (by omega)])
        rw [eX] at hr
        have next : ∀ (I5 : MI) (z : Option Value), I5 u 17 = brkAt (opE I u) (I u 5) (I (u + 13) i) (cn i) (I (u + 11) i) → (∀ q, q ≠ 17 → I5 u q = I1 u q) → (∀ b, b ≠ u → (b < sc ∨ sc + 9 ≤ b) → I5 b = I1 b) → (∀ b, b < sc ∨ sc + 9 ≤ b → J2 b = J1 b) → V x g2 0 0 I5 J2 87 [some (.ref u), some (.ref sc), none, some (.int (nI i)), z] [] := by
          intro I5 z q1 q2 q3 q4
          refine v_iinc C (nI (i + 1)) dSu_learnBreak_87 rfl (nI_1 i) (ble rfl) rfl ?_
          refine v_goto C 27 dSu_learnBreak_90 (by decide) ?_
          refine ih (i + 1) fr I5 J2 z (by omega) e1 ?_ q2 q3 q4
          rw [← e2, q1, hz]
          simp only [brkF, if_pos]
        rcases hr with ⟨r1, rfl, ho⟩ | ⟨X, r1, rfl, hX, hK, h4, h5, h6, h7, ho⟩
        · refine v_istore C dSu_learnBreak_61 (ble rfl) rfl ?_
          refine v_iload C dSu_learnBreak_63 rfl ?_
          refine v_if_eq C 87 dSu_learnBreak_65 (by decide) (fun _ => ?_) (fun h => absurd rfl h)
          have ou : I2 u = Ic u := ho.1 u (by omega)
          exact next I2 _ (by rw [ou, hz]; unfold brkAt; rw [r1]) (fun q hq => by rw [ou]; exact e3 q hq) (fun b b1 b2 => by rw [ho.1 b b2]; exact e4 b b1 b2) (fun b b2 => by rw [ho.2 b b2]; exact e5 b b2)
        · have ou : I2 u = Ic u := ho.1 u (by omega)
          have j2 : ∀ b, b < sc ∨ sc + 9 ≤ b → J2 b = J1 b := fun b b2 => by rw [ho.2 b b2]; exact e5 b b2
          refine v_istore C dSu_learnBreak_61 (ble rfl) rfl ?_
          refine v_iload C dSu_learnBreak_63 rfl ?_
          refine v_if_eq C 87 dSu_learnBreak_65 (by decide) (fun h => absurd h (by decide)) (fun _ => ?_)
          refine v_aload_n C 1 dSu_learnBreak_68 rfl rfl ?_
          refine v_cVl C (c_Sp_waysToEnds (kl x) (kD x) _ I2 J2 hC hX.1.2.1 hK.1) mwSp_waysToEnds cfSp (by assumption) w317 w318 w316 rfl rfl (ble rfl) (ble rfl) (ble rfl) (ble rfl) (ble rfl) dSu_learnBreak_69 ?_
          have ew : wsum (I2 sc 6) (I2 (sc + 1 + 1)) (J2 (sc + 7)) X.1 = wsum (I (u + 13) i) X.2.1 X.2.2.2 X.1 := by
            rw [h6]
            exact wsum_congr X.1 (fun i hi => ⟨(hX.2 i hi).1, (hX.2 i hi).2.2⟩)
          rw [ew]
          refine v_lconst C 0 dSu_learnBreak_72 (by decide) ?_
          refine v_lcmp C dSu_learnBreak_73 ?_
          refine v_if_ne C 87 dSu_learnBreak_74 (by decide) (fun c74 => ?_) (fun c74 => ?_)
          · refine next I2 _ ?_ (fun q hq => by rw [ou]; exact e3 q hq) (fun b b1 b2 => by rw [ho.1 b b2]; exact e4 b b1 b2) j2
            rw [ou, hz]
            unfold brkAt
            rw [r1]
            show _ = if _ then _ else _
            rw [if_neg (fun h => c74 (lcmpE.mpr h))]
          · refine v_aload_n C 0 dSu_learnBreak_77 rfl rfl ?_
            refine v_aload_n C 0 dSu_learnBreak_78 rfl rfl ?_
            refine v_getr C cfSu (k := 2) (by assumption) rfl (by assumption) w388 dSu_learnBreak_79 ?_
            refine v_iload_n C 3 dSu_learnBreak_82 rfl rfl ?_
            refine v_iald C (by assumption) (by assumption) dSu_learnBreak_83 ?_
            have g11b : I2 (u + 11) = I (u + 11) := by rw [ho.1 _ (by omega)]; exact g11
            rw [hic, g11b]
            refine v_puti C cfSu (k := 17) (by assumption) rfl w410 rfl rfl rfl dSu_learnBreak_84 ?_
            refine next _ _ ?_ (fun q hq => by rw [s2_k hq, ou]; exact e3 q hq) (fun b b1 b2 => by rw [s2_off b1, ho.1 b b2]; exact e4 b b1 b2) j2
            rw [s2_self]
            unfold brkAt
            rw [r1]
            show _ = if _ then _ else _
            rw [if_pos (lcmpE.mp c74)]
      · refine v_icmp_ne C 93 dSu_learnBreak_40 (by decide) (fun _ => ?_) (fun h => absurd h hz)
        refine fin Ic Jc fr _ _ _ e1 ?_ e3 e4 e5
        rw [← e2]
        simp only [brkF, if_neg hz]
  refine v_icmp_ne C 20 dSu_learnBreak_10 (by decide) (fun c10 => ?_) (fun c10 => ?_)
  · refine v_aload_n C 0 dSu_learnBreak_20 rfl rfl ?_
    refine v_geti C cfSu (k := 16) (by assumption) rfl w409 dSu_learnBreak_21 ?_
    rw [f16]
    refine v_istore_n C 2 dSu_learnBreak_24 rfl (ble rfl) rfl ?_
    refine v_iload_n C 2 dSu_learnBreak_25 rfl rfl ?_
    refine v_istore_n C 3 dSu_learnBreak_26 rfl (ble rfl) rfl ?_
    refine V.drop (lv2 := [some (.ref u), some (.ref sc), none, some (.int (nI bl)), none]) ?_ ⟨rfl, rfl, rfl, trivial⟩
    exact loop (k - bl) bl bl I1 J1 _ (by omega) (by rw [if_neg c10]) (by rw [f17]) (fun _ _ => rfl) (fun _ _ _ => rfl) (fun _ _ => rfl)
  · refine v_aload_n C 0 dSu_learnBreak_13 rfl rfl ?_
    refine v_geti C cfSu (k := 7) (by assumption) rfl w395 dSu_learnBreak_14 ?_
    rw [f7]
    refine v_goto C 24 dSu_learnBreak_17 (by decide) ?_
    refine v_istore_n C 2 dSu_learnBreak_24 rfl (ble rfl) rfl ?_
    refine v_iload_n C 2 dSu_learnBreak_25 rfl rfl ?_
    refine v_istore_n C 3 dSu_learnBreak_26 rfl (ble rfl) rfl ?_
    refine V.drop (lv2 := [some (.ref u), some (.ref sc), none, some (.int (nI k)), none]) ?_ ⟨rfl, rfl, rfl, trivial⟩
    exact loop 0 k k I1 J1 _ (by omega) (by rw [if_pos c10]) (by rw [f17, Nat.sub_self]) (fun _ _ => rfl) (fun _ _ _ => rfl) (fun _ _ => rfl)
