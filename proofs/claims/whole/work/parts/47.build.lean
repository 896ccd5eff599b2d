theorem fndS_mem8 {E : Nat → Nat → Int32} {kind ret : Int32} {n u : Nat} {I I2 : MI} {J J2 : MJ} (h1 : ∀ b, u ≤ b → b < u + 11 → b ≠ u + 2 + 6 → I2 b = I b) (h2 : ∀ b, u ≤ b → b < u + 11 → b ≠ u + 2 + 6 → J2 b = J b) (hf : fndS E kind ret n u I J) : fndS E kind ret n u I2 J2 := by
  have e1 := h1 u (by omega) (by omega) (by omega)
  have e2 := h2 u (by omega) (by omega) (by omega)
  have e3 := h1 (u + 2) (by omega) (by omega) (by omega)
  have e4 := h1 (u + 2 + 8) (by omega) (by omega) (by omega)
  unfold fndS at hf ⊢
  rw [e1, e2, e3, e4]
  rcases hf with hf | ⟨X, g1, g2, g3, g4, g5, g6, g7⟩
  · exact Or.inl hf
  · refine Or.inr ⟨X, g1, g2, g3, g4, g5, ⟨g6.1.off (fun b b1 b2 => h1 b (by omega) (by omega) (by omega)) (h2 _ (by omega) (by omega) (by omega)), ?_⟩, g7⟩
    rw [h1 (u + 2 + 1 + 1) (by omega) (by omega) (by omega), h2 (u + 2 + 1 + 2) (by omega) (by omega) (by omega), h2 (u + 2 + 7) (by omega) (by omega) (by omega)]
    exact g6.2
theorem SI_mem8 {I I2 : MI} {J J2 : MJ} {u n : Nat} (h1 : ∀ b, u ≤ b → b < u + 30 → b ≠ u + 2 + 6 → I2 b = I b) (h2 : ∀ b, u ≤ b → b < u + 30 → b ≠ u + 2 + 6 → J2 b = J b) (h : SI I J u n) : SI I2 J2 u n := by
  obtain ⟨a1, a2, a3, a4⟩ := h
  have e1 := h1 u (by omega) (by omega) (by omega)
  refine ⟨by rw [e1]; exact a1, a2, by rw [e1]; exact a3, fun h9 => ?_⟩
  rw [e1] at h9 ⊢
  exact fndS_mem8 (fun b b1 b2 => h1 b b1 (by omega)) (fun b b1 b2 => h2 b b1 (by omega)) (fndS_congr a2 (fun i k hi => by show I2 _ _ = I _ _; rw [h1 _ (by omega) (by omega) (by omega)]) (a4 h9))
theorem c_Sp_markHopeful_done (l : Launch) (D : va_G) (g : GM) (I : MI) (J : MJ) {s u : Nat} (hS : SpAt g s) (h4 : I s 4 = 1) : Ct l ySp_markHopeful bSp_markHopeful 6 none (rmN 5 123) D [.ref s, .ref u] g I J (PF none g I J) := by
  refine Ct.of (by decide) (ble rfl) [some (.ref s), some (.ref u), none, none, none, none] rfl ?_
  intro x C M
  have s0 := hS.1
  refine v_aload_n C 0 dSp_markHopeful_0 rfl rfl ?_
  refine v_geti C cfSp (k := 4) (by assumption) rfl w86 dSp_markHopeful_1 ?_
  rw [h4]
  refine v_if_eq C 8 dSp_markHopeful_4 (by decide) (fun h => absurd h (by decide)) (fun _ => ?_)
  exact v_vret C M dSp_markHopeful_7 (ble rfl) (ble rfl) ⟨rfl, rfl, rfl, rfl⟩
theorem xadd_le {X X2 : XS} {f : Nat} {key : Int32} {w : Int64} (e : xadd X f key w = some X2) : X.1 ≤ X2.1 := by
  unfold xadd at e
  split at e
  · split at e
    · cases e
      exact Nat.le_succ _
    · cases e
  · cases e
    exact Nat.le_refl _
theorem xpl_le {E : Nat → Nat → Int32} {kind ret own : Int32} {f p : Nat} {X X2 : XS} (e : xpl E kind ret own f p X = some X2) : X.1 ≤ X2.1 := by
  unfold xpl at e
  split at e
  · cases e
    exact Nat.le_refl _
  · exact xadd_le e
theorem xpls_le {E : Nat → Nat → Int32} {kind ret own : Int32} {f : Nat} : ∀ (m p : Nat) (X X2 : XS), xpls E kind ret own f m p X = some X2 → X.1 ≤ X2.1
  | 0, _, X, X2, e => by
    have e : some X = some X2 := e
    cases e
    exact Nat.le_refl _
  | m + 1, p, X, X2, e => by
    simp only [xpls] at e
    cases hx : xpl E kind ret own f p X with
    | none => rw [hx] at e; cases e
    | some X3 =>
      rw [hx] at e
      exact Nat.le_trans (xpl_le hx) (xpls_le m (p + 1) X3 X2 e)
theorem xfs_le {E : Nat → Nat → Int32} {kind ret own : Int32} {cnt : Nat} : ∀ (m f : Nat) (X X2 : XS), xfs E kind ret own cnt m f X = some X2 → X.1 ≤ X2.1
  | 0, _, X, X2, e => by
    have e : some X = some X2 := e
    cases e
    exact Nat.le_refl _
  | m + 1, f, X, X2, e => by
    simp only [xfs] at e
    split at e
    · cases hx : xpls E kind ret own f cnt 0 X with
      | none => rw [hx] at e; cases e
      | some X3 =>
        rw [hx] at e
        exact Nat.le_trans (xpls_le _ _ _ _ hx) (xfs_le m (f + 1) X3 X2 e)
    · cases e
      exact Nat.le_refl _
theorem xrun_pos {E : Nat → Nat → Int32} {kind ret own : Int32} {cnt : Nat} {X : XS} (h : xrun E kind ret own cnt = some X) : 0 < X.1 := by
  have h2 : X0.1 ≤ X.1 := xfs_le _ _ _ _ h
  exact h2
/-- an object whose possibilities are known, with its hopes -/
def hopS (I : MI) (J : MJ) (u n : Nat) (X : XS) : Prop := xrun (opE I u) (I u 5) (I u 8) 0 n = some X ∧ I u 9 = 1
def bldQ (g : GM) (I : MI) (J : MJ) (a no np : Nat) (sb cnt ow pl : Nat → Nat) (X : Nat → XS) : Option Value → GM → MI → MJ → Prop := fun v g2 I2 J2 => v = none ∧ g2 = g ∧ ∃ (hp h0 : Nat → Nat → Int32), (∀ k, k < no → hp k = hmark (opE I (sb k)) (I (sb k) 5) (I (sb k) 8) 0 (cnt k) (X k) (X k).1 (h0 k)) ∧ ∃ B : BS, B = brw (no, np, ow, pl, J (a + 4), fun k => opE I (sb k), fun k => I (sb k) 5, fun k => I (sb k) 8, X, hp) np 0 (fun _ => 0) (0, fun _ => 0, fun _ => 0) ∧ I2 a 9 = nI B.1 ∧ B.1 ≤ np ∧ I2 a 10 = 1 ∧ (∀ i, i < B.1 → I2 (a + 15) i = B.2.1 i ∧ I2 (a + 16) i = B.2.2 i) ∧ (∀ q, q ≠ 9 → q ≠ 10 → I2 a q = I a q) ∧ (∀ k, k < no → SI I2 J2 (sb k) (cnt k) ∧ lsame (sb k) I J I2 J2) ∧ (∀ b, b ≠ a → b ≠ a + 15 → b ≠ a + 16 → b ≠ a + 17 → (∀ k, k < no → b < sb k ∨ sb k + 30 ≤ b) → I2 b = I b ∧ J2 b = J b) ∧ J2 a = J a
set_option maxHeartbeats 8000000 in
theorem c_LH_buildRow (l : Launch) (D : va_G) (g : GM) (I : MI) (J : MJ) {a no np : Nat} {sb cnt ow pl : Nat → Nat} {X : Nat → XS} (hA : LHAt g a) (hno : I a 11 = nI no) (hnp : I a 12 = nI np) (hnp2 : np ≤ 48) (hW : SubW g a no sb) (hSI : ∀ k, k < no → SI I J (sb k) (cnt k)) (hX : ∀ k, k < no → hopS I J (sb k) (cnt k) (X k)) (hop : ∀ i, i < np → I (a + 2) i = nI (ow i) ∧ ow i < no ∧ I (a + 3) i = nI (pl i) ∧ pl i < 16) (hrb : I a 10 = 0) : Ct l yLH_buildRow bLH_buildRow 4 none (rmN 6 150) D [.ref a] g I J (bldQ g I J a no np sb cnt ow pl X) := by
  refine Ct.of (by decide) (ble rfl) [some (.ref a), none, none, none] rfl ?_
  intro x C M
  obtain ⟨a0, a1, a2, a3, a4, a5, hS, a15, a16, a17, r0, r1, r2, r3, r4, r5, r6, r7, r8⟩ := id hA
  obtain ⟨hn6, hsub, hdis⟩ := id hW
  have djk : ∀ k j, k < no → j < no → k ≠ j → sb k + 30 ≤ sb j ∨ sb j + 30 ≤ sb k := fun k j hk hj hne => by
    rcases Nat.lt_or_ge k j with h | h
    · exact Or.inl (hdis k j h hj)
    · exact Or.inr (hdis j k (by omega) hk)
  refine v_aload_n C 0 dLH_buildRow_0 rfl rfl ?_
  refine v_geti C cfLH (k := 10) (by assumption) rfl w121 dLH_buildRow_1 ?_
  rw [hrb]
  refine v_if_eq C 8 dLH_buildRow_4 (by decide) (fun _ => ?_) (fun h => absurd rfl h)
  refine v_iconst C 0 dLH_buildRow_8 (by decide) ?_
  refine v_istore_n C 1 dLH_buildRow_9 rfl (ble rfl) rfl ?_
  -- the second loop
  have second : ∀ (d : RD) (m : Nat) (placed : Int64) (rc : Nat → Nat) (b : BS) (Ic : MI) (Jc : MJ), d.1 = no → d.2.1 = np → b.1 + m = np → RW g a sb cnt d Ic Jc → rcOK a d rc Ic → Ic a 9 = nI b.1 → (∀ i, i < b.1 → Ic (a + 15) i = b.2.1 i ∧ Ic (a + 16) i = b.2.2 i) → (∀ (B : BS) (I2 : MI) (J2 : MJ) (z2 z3 : Option Value), B = brw d m placed rc b → B.1 ≤ np → rsame a no sb Ic Jc I2 J2 → I2 a 9 = nI B.1 → I2 a 10 = Ic a 10 → (∀ i, i < B.1 → I2 (a + 15) i = B.2.1 i ∧ I2 (a + 16) i = B.2.2 i) → ∀ pz, V x g 0 0 I2 J2 103 [some (.ref a), some (.long pz), z2, z3] []) → V x g 0 0 Ic Jc 52 [some (.ref a), some (.long placed), none, none] [] := by
    intro d m
    induction m with
    | zero =>
      intro placed rc b Ic Jc d1 d2 h1 hR hrc h9 hb kk
      refine v_aload_n C 0 dLH_buildRow_52 rfl rfl ?_
      refine v_geti C cfLH (k := 9) (by assumption) rfl w120 dLH_buildRow_53 ?_
      rw [h9]
      refine v_aload_n C 0 dLH_buildRow_56 rfl rfl ?_
      refine v_geti C cfLH (k := 12) (by assumption) rfl w123 dLH_buildRow_57 ?_
      rw [hR.2.2.1]
      refine v_icmp_ge C 103 dLH_buildRow_60 (by decide) (fun _ => ?_) (fun h => absurd (nI_le (by show d.2.1 ≤ b.1; omega) (by omega)) h)
      exact kk b Ic Jc _ _ rfl (by omega) rsame.rf h9 rfl hb placed
    | succ m ih =>
      intro placed rc b Ic Jc d1 d2 h1 hR hrc h9 hb kk
      refine v_aload_n C 0 dLH_buildRow_52 rfl rfl ?_
      refine v_geti C cfLH (k := 9) (by assumption) rfl w120 dLH_buildRow_53 ?_
      rw [h9]
      refine v_aload_n C 0 dLH_buildRow_56 rfl rfl ?_
      refine v_geti C cfLH (k := 12) (by assumption) rfl w123 dLH_buildRow_57 ?_
      rw [hR.2.2.1]
      refine v_icmp_ge C 103 dLH_buildRow_60 (by decide) (fun h => absurd h (nI_ge (by show b.1 < d.2.1; omega) (by show d.2.1 < _; omega))) (fun _ => ?_)
      refine v_aload_n C 0 dLH_buildRow_63 rfl rfl ?_
      refine v_cVi C (c_LH_allAtEnds (kl x) (kD x) g Ic Jc hA hR hrc) mwLH_allAtEnds cfLH (by assumption) w616 ws18 w614 rfl rfl (ble rfl) (ble rfl) (ble rfl) (ble rfl) (ble rfl) dLH_buildRow_64 ?_
      by_cases hz : allA (endE d rc) (dno d) 0 = 0
      · rw [hz]
        refine v_if_ne C 103 dLH_buildRow_67 (by decide) (fun h => absurd rfl h) (fun _ => ?_)
        refine v_aload_n C 0 dLH_buildRow_70 rfl rfl ?_
        refine v_lload_n C 1 dLH_buildRow_71 rfl rfl ?_
        refine v_callV C (c_LH_placeNext (kl x) (kD x) g Ic Jc placed hA hR hrc h9 (by omega)) mwLH_placeNext cfLH (by assumption) w621 ws19 w619 rfl rfl (ble rfl) (ble rfl) (ble rfl) (ble rfl) (ble rfl) dLH_buildRow_72 ?_
        rintro v g2 I2 J2 ⟨rfl, hs, hIa, hc⟩
        rcases hc with ⟨c1, rfl, c3, c4, c5⟩ | ⟨i, t, res, c1, rfl, ci, ct, c3, c4, c5⟩
        · refine v_istore_n C 3 dLH_buildRow_75 rfl (ble rfl) rfl ?_
          refine v_iload_n C 3 dLH_buildRow_76 rfl rfl ?_
          refine v_iconst C (-1) dLH_buildRow_77 (by decide) ?_
          refine v_icmp_ne C 84 dLH_buildRow_78 (by decide) (fun h => absurd rfl h) (fun _ => ?_)
          refine v_goto C 103 dLH_buildRow_81 (by decide) ?_
          refine kk b I2 J2 _ _ ?_ (by omega) (by rw [← d1]; exact hs) (by rw [hIa]; exact h9) (by rw [hIa]) (fun j hj => by rw [c3, c4]; exact hb j hj) placed
          simp only [brw]
          rw [if_neg (fun h => h hz), c1]
        · have hne : ¬ nI i = -1 := fun e => by have h0 := nI_pos (n := i) (by have : i < d.2.1 := ci; omega); rw [e] at h0; exact h0 (by decide)
          refine v_istore_n C 3 dLH_buildRow_75 rfl (ble rfl) rfl ?_
          refine v_iload_n C 3 dLH_buildRow_76 rfl rfl ?_
          refine v_iconst C (-1) dLH_buildRow_77 (by decide) ?_
          refine v_icmp_ne C 84 dLH_buildRow_78 (by decide) (fun _ => ?_) (fun h => absurd h hne)
          refine v_lload_n C 1 dLH_buildRow_84 rfl rfl ?_
          refine v_lconst C 1 dLH_buildRow_85 (by decide) ?_
          refine v_iload_n C 3 dLH_buildRow_86 rfl rfl ?_
          refine v_lshl C dLH_buildRow_87 ?_
          refine v_lor C dLH_buildRow_88 ?_
          refine v_lstore_n C 1 dLH_buildRow_89 rfl (ble rfl) rfl ?_
          refine v_aload_n C 0 dLH_buildRow_90 rfl rfl ?_
          refine v_dup C dLH_buildRow_91 rfl ?_
          refine v_geti C cfLH (k := 9) (by assumption) rfl w120 dLH_buildRow_92 ?_
          rw [hIa, h9]
          refine v_iconst C 1 dLH_buildRow_95 (by decide) ?_
          refine v_iadd C dLH_buildRow_96 ?_
          refine v_puti C cfLH (k := 9) (by assumption) rfl w120 rfl rfl rfl dLH_buildRow_97 ?_
          refine v_goto C 52 dLH_buildRow_100 (by decide) ?_
          rw [nI_1]
          have hs2 : rsame a (dno d) sb Ic Jc (s2 I2 a 9 (nI (b.1 + 1))) J2 := ⟨fun q q1 q2 q3 q4 q5 => by rw [s2_off q1]; exact hs.1 q q1 q2 q3 q4 q5, fun q q1 q2 => by rw [s2_k q1]; exact hs.2.1 q q1 q2, hs.2.2⟩
          have hR2 := hR.same hs2
          refine V.drop (lv2 := [some (.ref a), some (.long (placed ||| jshl 1 (nI i))), none, none]) ?_ ⟨rfl, rfl, trivial⟩
          refine ih (placed ||| jshl 1 (nI i)) (upF rc (dow d i) t) (b.1 + 1, upF b.2.1 b.1 (nI i), upF b.2.2 b.1 res) _ J2 d1 d2 (by show b.1 + 1 + m = np; omega) hR2 (fun k hk => ?_) (s2_self _ _ _ _) (fun j hj => ?_) (fun B I5 J5 z2 z3 e1 e2 e3 e4 e5 e6 pz => kk B I5 J5 z2 z3 ?_ e2 ?_ e4 ?_ e6 pz)
          · rw [s2_a (by omega), c3]
            unfold upF
            by_cases hq : k = dow d i
            · rw [if_pos hq, if_pos hq]
              exact ⟨rfl, by rw [hq]; exact ct⟩
            · rw [if_neg hq, if_neg hq]
              exact hrc k hk
          · have hj : j < b.1 + 1 := hj
            rw [s2_a (by omega), s2_a (by omega), c4, c5]
            show upF _ _ _ j = upF _ _ _ j ∧ upF _ _ _ j = upF _ _ _ j
            unfold upF
            by_cases hq : j = b.1
            · simp only [if_pos hq]
              exact ⟨trivial, trivial⟩
            · simp only [if_neg hq]
              exact hb j (by omega)
          · rw [e1]
            simp only [brw]
            rw [if_neg (fun h => h hz), c1]
          · have hs3 : rsame a d.1 sb Ic Jc (s2 I2 a 9 (nI (b.1 + 1))) J2 := hs2
            rw [d1] at hs3
            exact hs3.tr e3
          · rw [e5, s2_k (by decide), hIa]
      · refine v_if_ne C 103 dLH_buildRow_67 (by decide) (fun _ => ?_) (fun h => absurd h hz)
        refine kk b Ic Jc _ _ ?_ (by omega) rsame.rf h9 rfl hb placed
        simp only [brw]
        rw [if_pos hz]
  -- the first loop
  have first : ∀ (m k : Nat) (Ic : MI) (Jc : MJ), k + m = no → (∀ j, j < no → SI Ic Jc (sb j) (cnt j) ∧ lsame (sb j) I J Ic Jc ∧ Ic (sb j) = I (sb j)) → (∀ j, j < k → Ic (sb j + 2) 4 = 1 ∧ Ic (a + 17) j = 0) → Ic a = I a → (∀ b, b ≠ a + 17 → (∀ j, j < no → b < sb j ∨ sb j + 30 ≤ b) → Ic b = I b ∧ Jc b = J b) → V x g 0 0 Ic Jc 10 [some (.ref a), some (.int (nI k)), none, none] [] := by
    intro m
    induction m with
    | zero =>
      intro k Ic Jc h1 hs hm hIa ho
      have hk : k = no := by omega
      subst hk
      refine v_iload_n C 1 dLH_buildRow_10 rfl rfl ?_
      refine v_aload_n C 0 dLH_buildRow_11 rfl rfl ?_
      refine v_geti C cfLH (k := 11) (by assumption) rfl w122 dLH_buildRow_12 ?_
      rw [hIa, hno]
      refine v_icmp_ge C 45 dLH_buildRow_15 (by decide) (fun _ => ?_) (fun h => absurd (nI_le (Nat.le_refl _) (by omega)) h)
      refine v_lconst C 0 dLH_buildRow_45 (by decide) ?_
      refine v_lstore_n C 1 dLH_buildRow_46 rfl (ble rfl) rfl ?_
      refine v_aload_n C 0 dLH_buildRow_47 rfl rfl ?_
      refine v_iconst C 0 dLH_buildRow_48 (by decide) ?_
      refine v_puti C cfLH (k := 9) (by assumption) rfl w120 rfl rfl rfl dLH_buildRow_49 ?_
      -- the data
      have hall : ∀ j, j < k → XIs Ic Jc (sb j + 2) (X j) ∧ KInv (X j) ∧ Ic (sb j + 2) 6 = I (sb j) 8 ∧ Ic (sb j + 2) 7 = 0 ∧ ∃ h0, ∀ i, Ic (sb j + 2 + 8) i = hmark (opE I (sb j)) (I (sb j) 5) (I (sb j) 8) 0 (cnt j) (X j) (X j).1 h0 i := by
        intro j hj
        obtain ⟨s1, s2', s3⟩ := hs j hj
        obtain ⟨x1, x2⟩ := hX j hj
        have hf := s1.2.2.2 (by rw [s3]; exact x2)
        rw [s3] at hf
        have hf := fndS_congr s1.2.1 (fun i q hi => (s2'.op i q hi).symm) hf
        rcases hf with ⟨h1, -⟩ | ⟨X9, h1, -, -, -, -, h6, h7, -, h9, h10, h11⟩
        · rw [x1] at h1; cases h1
        · rw [x1] at h1
          cases h1
          refine ⟨h6, h7, h9, h10, ?_⟩
          rcases h11 with h11 | ⟨-, h11⟩
          · rw [(hm j hj).1] at h11
            exact absurd h11 (by decide)
          · exact h11
      have hch : ∃ h0 : Nat → Nat → Int32, ∀ j, j < k → ∀ i, Ic (sb j + 2 + 8) i = hmark (opE I (sb j)) (I (sb j) 5) (I (sb j) 8) 0 (cnt j) (X j) (X j).1 (h0 j) i := by
        refine ⟨fun j => if h : j < k then (hall j h).2.2.2.2.choose else fun _ => 0, fun j hj i => ?_⟩
        show _ = hmark _ _ _ _ _ _ _ (if h : j < k then (hall j h).2.2.2.2.choose else fun _ => 0) i
        rw [dif_pos hj]
        exact (hall j hj).2.2.2.2.choose_spec i
      obtain ⟨h0, hh0⟩ := hch
      have hau : ∀ j, j < k → a + 18 ≤ sb j := fun j hj => (hsub j hj).2.2
      have eb : ∀ b, b < a + 17 → Ic b = I b ∧ Jc b = J b := fun b hb => ho b (by omega) (fun j hj => by have := hau j hj; omega)
      have hRW : RW g a sb cnt (k, np, ow, pl, J (a + 4), fun k => opE I (sb k), fun k => I (sb k) 5, fun k => I (sb k) 8, X, fun j => Ic (sb j + 2 + 8)) (s2 Ic a 9 0) Jc := by
        refine ⟨hW, by rw [s2_k (by decide), hIa]; exact hno, by rw [s2_k (by decide), hIa]; exact hnp, hnp2, fun i hi => ?_, fun j hj => ?_⟩
        · rw [s2_a (by omega), s2_a (by omega), (eb (a + 2) (by omega)).1, (eb (a + 3) (by omega)).1, (eb (a + 4) (by omega)).2]
          have h := hop i hi
          exact ⟨h.1, h.2.1, h.2.2.1, h.2.2.2, rfl⟩
        · have hj2 := hau j hj
          obtain ⟨q1, q2, q3, q4, q5⟩ := hall j hj
          obtain ⟨s1, s2', s3⟩ := hs j hj
          refine ⟨fun i q hi => ?_, by rw [s2_a (by omega), s3], by rw [s2_a (by omega), s3], ⟨q1.1.off (fun b b1 b2 => s2_off (by omega)) rfl, ?_⟩, q2, by rw [s2_a (by omega)]; exact q3, by rw [s2_a (by omega)]; exact q4, fun i => by rw [s2_a (by omega)]⟩
          · rw [s2_a (by omega)]
            exact s2'.op i q hi
          · rw [s2_off (by omega)]
            exact q1.2
      refine second _ np 0 (fun _ => 0) (0, fun _ => 0, fun _ => 0) _ _ rfl rfl (by show 0 + np = np; omega) hRW (fun j hj => ?_) (s2_self _ _ _ _) (fun i hi => absurd hi (Nat.not_lt_zero i)) (fun B I2 J2 z2 z3 e1 e2 e3 e4 e5 e6 pz => ?_)
      · rw [s2_a (by omega)]
        refine ⟨(hm j hj).2, ?_⟩
        obtain ⟨x1, -⟩ := hX j hj
        exact xrun_pos x1
      · refine v_aload_n C 0 dLH_buildRow_103 rfl rfl ?_
        refine v_iconst C 1 dLH_buildRow_104 (by decide) ?_
        refine v_puti C cfLH (k := 10) (by assumption) rfl w121 rfl (by first | rfl | assumption) (by first | rfl | assumption) dLH_buildRow_105 ?_
        refine v_vret C M dLH_buildRow_108 (ble rfl) (ble rfl) ⟨rfl, rfl, fun j => Ic (sb j + 2 + 8), h0, fun j hj => funext (hh0 j hj), B, e1, ?_, e2, s2_self _ _ _ _, fun i hi => ?_, fun q q1 q2 => ?_, fun j hj => ?_, fun b b1 b2 b3 b4 b5 => ?_, ?_⟩
        · rw [s2_k (by decide)]; exact e4
        · rw [s2_a (by omega), s2_a (by omega)]; exact e6 i hi
        · rw [s2_k q2, e3.2.1 q q1 q2, s2_k q1, hIa]
        · have hj2 := hau j hj
          obtain ⟨s1, s2', s3⟩ := hs j hj
          have eI : ∀ b, sb j ≤ b → b < sb j + 30 → b ≠ sb j + 2 + 6 → s2 I2 a 10 1 b = Ic b := fun b b1 b2 b3 => by
            obtain ⟨c, rfl⟩ : ∃ c, b = sb j + c := ⟨b - sb j, by omega⟩
            rw [s2_off (by omega), e3.1 _ (by omega) (by omega) (by omega) (by omega) (fun i hi => subw_ne hW hj hi (by omega) (Or.inl (by omega))), s2_off (by omega)]
          have eJ : ∀ b, sb j ≤ b → b < sb j + 30 → b ≠ sb j + 2 + 6 → J2 b = Jc b := fun b b1 b2 b3 => by
            obtain ⟨c, rfl⟩ : ∃ c, b = sb j + c := ⟨b - sb j, by omega⟩
            exact e3.2.2 _ (fun i hi => subw_ne hW hj hi (by omega) (Or.inl (by omega)))
          refine ⟨SI_mem8 eI eJ s1, s2'.tr ⟨fun q _ _ _ _ => by rw [eI (sb j) (by omega) (by omega) (by omega)], fun b b1 b2 b3 => eI b (by omega) (by omega) (by omega)⟩⟩
        · have hn8 : ∀ j, j < k → b ≠ sb j + 2 + 6 := fun j hj => by
            rcases b5 j hj with h | h <;> omega
          have h9 := ho b b4 b5
          exact ⟨by rw [s2_off b1, e3.1 b b1 b2 b3 b4 hn8, s2_off b1]; exact h9.1, by rw [e3.2.2 b hn8]; exact h9.2⟩
        · rw [e3.2.2 a (fun j hj => by have := hau j hj; omega)]
          exact (ho a (by omega) (fun j hj => Or.inl (by have := hau j hj; omega))).2
    | succ m ih =>
      intro k Ic Jc h1 hs hm hIa ho
      have hk : k < no := by omega
      obtain ⟨q1, hU, hau⟩ := hsub k hk
      obtain ⟨u0, hO, hSp, u11, u12, u13, ur0, ur1, ur2, ur3, ur4⟩ := id hU
      have s0 := hSp.1
      have hkc : (nI k).toNatClampNeg = k := nI_clamp (by omega)
      have hki : vp_in (nI k) 6 := vp_in_nI (by omega) (by decide)
      refine v_iload_n C 1 dLH_buildRow_10 rfl rfl ?_
      refine v_aload_n C 0 dLH_buildRow_11 rfl rfl ?_
      refine v_geti C cfLH (k := 11) (by assumption) rfl w122 dLH_buildRow_12 ?_
      rw [hIa, hno]
      refine v_icmp_ge C 45 dLH_buildRow_15 (by decide) (fun h => absurd h (nI_ge hk (by omega))) (fun _ => ?_)
      refine v_aload_n C 0 dLH_buildRow_18 rfl rfl ?_
      refine v_iload_n C 1 dLH_buildRow_19 rfl rfl ?_
      refine v_cVr C (c_LH_subjectOf (kl x) (kD x) g Ic Jc hA (by rw [hIa]; exact hno) hn6 hk q1) mwLH_subjectOf cfLH (by assumption) w171 ws0 w169 rfl rfl (ble rfl) (ble rfl) (ble rfl) (ble rfl) (ble rfl) dLH_buildRow_20 ?_
      refine v_astore_n C 2 dLH_buildRow_23 rfl (ble rfl) rfl ?_
      refine v_aload_n C 2 dLH_buildRow_24 rfl rfl ?_
      refine v_getr C cfSu (k := 1) (by assumption) rfl (by assumption) w387 dLH_buildRow_25 ?_
      refine v_aload_n C 2 dLH_buildRow_28 rfl rfl ?_
      have next : ∀ (I4 : MI) (J4 : MJ), SI I4 J4 (sb k) (cnt k) → lsame (sb k) Ic Jc I4 J4 → I4 (sb k) = Ic (sb k) → I4 (sb k + 2) 4 = 1 → (∀ b, b < sb k ∨ sb k + 30 ≤ b → I4 b = Ic b ∧ J4 b = Jc b) → V x g 0 0 I4 J4 32 [some (.ref a), some (.int (nI k)), some (.ref (sb k)), none] [] := by
        intro I4 J4 p1 p2 p3 p4 p5
        refine v_aload_n C 0 dLH_buildRow_32 rfl rfl ?_
        refine v_getr C cfLH (k := 8) (by assumption) rfl (by assumption) w119 dLH_buildRow_33 ?_
        refine v_iload_n C 1 dLH_buildRow_36 rfl rfl ?_
        refine v_iconst C 0 dLH_buildRow_37 (by decide) ?_
        refine v_iast C (by assumption) (by assumption) dLH_buildRow_38 ?_
        rw [hkc]
        refine v_iinc C (nI (k + 1)) dLH_buildRow_39 rfl (nI_1 k) (ble rfl) rfl ?_
        refine v_goto C 10 dLH_buildRow_42 (by decide) ?_
        refine V.drop (lv2 := [some (.ref a), some (.int (nI (k + 1))), none, none]) ?_ ⟨rfl, rfl, trivial⟩
        refine ih (k + 1) _ J4 (by omega) (fun j hj => ?_) (fun j hj => ?_) (by rw [s2_off (by omega), (p5 a (by omega)).1]; exact hIa) (fun b b1 b2 => ?_)
        · have hj2 := (hsub j hj).2.2
          by_cases hjk : j = k
          · subst hjk
            refine ⟨SI_mem (fun b b1 b2 => s2_off (by omega)) (fun b b1 b2 => rfl) p1, ((hs j hj).2.1.tr p2).tr ⟨fun q _ _ _ _ => by rw [s2_a (by omega)], fun b b1 b2 b3 => s2_off (by omega)⟩, by rw [s2_off (by omega), p3]; exact (hs j hj).2.2⟩
          · have hd := djk j k hj hk hjk
            have e5 : ∀ b, sb j ≤ b → b < sb j + 30 → s2 I4 (a + 17) k 0 b = Ic b ∧ J4 b = Jc b := fun b b1 b2 => by
              have h := p5 b (by omega)
              exact ⟨by rw [s2_off (by omega)]; exact h.1, h.2⟩
            refine ⟨SI_mem (fun b b1 b2 => (e5 b b1 b2).1) (fun b b1 b2 => (e5 b b1 b2).2) (hs j hj).1, (hs j hj).2.1.tr ⟨fun q _ _ _ _ => by rw [(e5 (sb j) (by omega) (by omega)).1], fun b b1 b2 b3 => (e5 b (by omega) (by omega)).1⟩, by rw [(e5 (sb j) (by omega) (by omega)).1]; exact (hs j hj).2.2⟩
        · by_cases hjk : j = k
          · subst hjk
            exact ⟨by rw [s2_a (by omega)]; exact p4, s2_self _ _ _ _⟩
          · have hd := djk j k (by omega) hk hjk
            have hj2 := (hsub j (by omega)).2.2
            have h := hm j (by omega)
            refine ⟨by rw [s2_a (by omega), (p5 (sb j + 2) (by omega)).1]; exact h.1, ?_⟩
            rw [s2_k hjk, (p5 (a + 17) (by omega)).1]
            exact h.2
        · have h := p5 b (b2 k hk)
          have h2 := ho b b1 b2
          exact ⟨by rw [s2_off b1, h.1]; exact h2.1, by rw [h.2]; exact h2.2⟩
      obtain ⟨s1, s2', s3⟩ := hs k hk
      obtain ⟨x1, x2⟩ := hX k hk
      have hl9 : Ic (sb k) 9 = 1 := by rw [s3]; exact x2
      have hf := s1.2.2.2 hl9
      rcases id hf with ⟨w1, -⟩ | ⟨X9, w1, w2, w3, w4, w5, w6, w7, w8, w9, w10, w11⟩
      · rw [s3, xrun_congr s1.2.1 s2'.op, x1] at w1
        cases w1
      rcases w11 with w11 | ⟨w11, -⟩
      · refine v_callV C (c_Sp_markHopeful (kl x) (kD x) g Ic Jc hSp hU s1.2.1 w6 w7 w11 w8 w9 w10) mwSp_markHopeful cfSp (by assumption) w603 w604 w602 rfl rfl (ble rfl) (ble rfl) (ble rfl) (ble rfl) (ble rfl) dLH_buildRow_29 ?_
        rintro v g2 I2 J2 ⟨rfl, rfl, m1, m2, m3, m4, m5⟩
        have ls : lsame (sb k) Ic Jc I2 J2 := ⟨fun q _ _ _ _ => by rw [m3 (sb k) (by omega) (by omega) (by omega)], fun b b1 b2 b3 => m3 b (by omega) (by omega) (by omega)⟩
        refine next I2 J2 ⟨?_, s1.2.1, ?_, fun _ => ?_⟩ ls (m3 _ (by omega) (by omega) (by omega)) m1 (fun b hb => ⟨m3 b (by omega) (by omega) (by omega), m4 b (by omega)⟩)
        · rw [m3 (sb k) (by omega) (by omega) (by omega)]; exact s1.1
        · rw [m3 (sb k) (by omega) (by omega) (by omega)]; exact s1.2.2.1
        · rw [m3 (sb k) (by omega) (by omega) (by omega)]
          refine fndS_congr s1.2.1 ls.op ?_
          refine Or.inr ⟨X9, w1, ?_, ?_, ?_, ?_, ⟨w6.1.off (fun b b1 b2 => m3 b (by omega) (by omega) (by omega)) (m4 _ (by omega)), ?_⟩, w7, ?_, ?_, ?_, Or.inr ⟨m1, ?_⟩⟩
          · rw [m3 (sb k) (by omega) (by omega) (by omega)]; exact w2
          · rw [m4 (sb k) (by omega)]; exact w3
          · rw [m3 (sb k) (by omega) (by omega) (by omega)]; exact w4
          · rw [m3 (sb k) (by omega) (by omega) (by omega)]; exact w5
          · rw [m3 (sb k + 2 + 1 + 1) (by omega) (by omega) (by omega), m4 (sb k + 2 + 1 + 2) (by omega), m4 (sb k + 2 + 7) (by omega)]
            exact w6.2
          · rw [m2 5 (by decide)]; exact w8
          · rw [m2 6 (by decide)]; exact w9
          · rw [m2 7 (by decide)]; exact w10
          · exact m5
      · refine v_callV C (c_Sp_markHopeful_done (kl x) (kD x) g Ic Jc hSp w11) mwSp_markHopeful cfSp (by assumption) w603 w604 w602 rfl rfl (ble rfl) (ble rfl) (ble rfl) (ble rfl) (ble rfl) dLH_buildRow_29 ?_
        rintro v g2 I2 J2 ⟨rfl, rfl, rfl, rfl⟩
        exact next _ _ s1 lsame.rf rfl w11 (fun _ _ => ⟨rfl, rfl⟩)
  exact first no 0 I J (by omega) (fun j hj => ⟨hSI j hj, lsame.rf, rfl⟩) (fun j hj => absurd hj (Nat.not_lt_zero j)) rfl (fun _ _ _ => ⟨rfl, rfl⟩)
theorem c_LH_buildRow_done (l : Launch) (D : va_G) (g : GM) (I : MI) (J : MJ) {a : Nat} (a0 : g.1 a = (5, 0)) (hrb : I a 10 = 1) : Ct l yLH_buildRow bLH_buildRow 4 none (rmN 6 150) D [.ref a] g I J (PF none g I J) := by
  refine Ct.of (by decide) (ble rfl) [some (.ref a), none, none, none] rfl ?_
  intro x C M
  refine v_aload_n C 0 dLH_buildRow_0 rfl rfl ?_
  refine v_geti C cfLH (k := 10) (by assumption) rfl w121 dLH_buildRow_1 ?_
  rw [hrb]
  refine v_if_eq C 8 dLH_buildRow_4 (by decide) (fun h => absurd h (by decide)) (fun _ => ?_)
  exact v_vret C M dLH_buildRow_7 (ble rfl) (ble rfl) ⟨rfl, rfl, rfl, rfl⟩
