theorem wsum_congr {ret : Int32} {K K2 : Nat → Int32} {Y Y2 : Nat → Int64} : ∀ n : Nat, (∀ i, i < n → K2 i = K i ∧ Y2 i = Y i) → wsum ret K2 Y2 n = wsum ret K Y n
  | 0, _ => rfl
  | n + 1, h => by
    simp only [wsum]
    rw [(h n (Nat.lt_succ_self n)).1, (h n (Nat.lt_succ_self n)).2, wsum_congr n (fun i hi => h i (Nat.lt_succ_of_lt hi))]
theorem sae_congr {ret : Int32} {K K2 : Nat → Int32} {Y Y2 : Nat → Int64} : ∀ n : Nat, (∀ i, i < n → K2 i = K i ∧ Y2 i = Y i) → sae ret K2 Y2 n = sae ret K Y n
  | 0, _ => rfl
  | n + 1, h => by
    simp only [sae]
    rw [(h n (Nat.lt_succ_self n)).1, (h n (Nat.lt_succ_self n)).2, sae_congr n (fun i hi => h i (Nat.lt_succ_of_lt hi))]
def jdg (w : Int64) : Int32 := if w ≤ 0 then 0 else 1
/-- what is found out of an object: its four answers, and its space as it is then -/
def fndR (E : Nat → Nat → Int32) (kind ret : Int32) (n : Nat) (u : Nat) (I2 : MI) (J2 : MJ) : Prop :=
  (xrun E kind ret 0 n = none ∧ I2 u 10 = -2 ∧ J2 u 12 = -2 ∧ I2 u 13 = -2 ∧ I2 u 11 = -2) ∨
  ∃ X, xrun E kind ret 0 n = some X ∧ I2 u 10 = nI X.1 ∧ J2 u 12 = wsum ret X.2.1 X.2.2.2 X.1 ∧ I2 u 13 = nI (sae ret X.2.1 X.2.2.1 X.1).1 ∧ I2 u 11 = jdg (wsum ret X.2.1 X.2.2.2 X.1) ∧ XIs I2 J2 (u + 2) X ∧ KInv X ∧ I2 (u + 2) 4 = 0 ∧ I2 (u + 2) 5 = nI n ∧ I2 (u + 2) 6 = ret ∧ I2 (u + 2) 7 = 0
def lrnQ (g : GM) (I : MI) (J : MJ) (u sc n : Nat) : Option Value → GM → MI → MJ → Prop := fun v g2 I2 J2 => v = none ∧ g2 = g ∧ (I u 9 ≠ 0 ∧ I2 = I ∧ J2 = J ∨ I u 9 = 0 ∧ I2 u 9 = 1 ∧ (∀ k, k ≠ 9 → k ≠ 10 → k ≠ 11 → k ≠ 13 → I2 u k = I u k) ∧ (∀ k, k ≠ 12 → J2 u k = J u k) ∧ (∀ b, b ≠ u → (b < u + 2 ∨ u + 11 ≤ b) → (b < sc + 1 ∨ sc + 6 ≤ b) → I2 b = I b ∧ J2 b = J b) ∧ fndR (opE I u) (I u 5) (I u 8) n u I2 J2)
set_option maxHeartbeats 4000000 in
theorem c_Su_learn (l : Launch) (D : va_G) (g : GM) (I : MI) (J : MJ) {u sc n : Nat} (hU : SuAt g u) (hC : SpAt g sc) (hd : sc + 9 ≤ u ∨ u + 30 ≤ sc) (hn : I u 6 = nI n) (hn2 : n ≤ 16) : Ct l ySu_learn bSu_learn 2 none (rmN 5 128) D [.ref u, .ref sc] g I J (lrnQ g I J u sc n) := by
  refine Ct.of (by decide) (ble rfl) [some (.ref u), some (.ref sc)] rfl ?_
  intro x C M
  obtain ⟨u0, hO, hS, u11, u12, u13, ur0, ur1, ur2, ur3, ur4⟩ := id hU
  obtain ⟨s0, hT, s6, s7, s8, sr0, sr1, sr2, sr3⟩ := id hS
  have t0 := hT.1
  obtain ⟨sc0, hTc, -, -, -, scr0, -⟩ := id hC
  refine v_aload_n C 0 dSu_learn_0 rfl rfl ?_
  refine v_geti C cfSu (k := 9) (by assumption) rfl w397 dSu_learn_1 ?_
  by_cases h9 : I u 9 = 0
  · rw [h9]
    refine v_if_eq C 8 dSu_learn_4 (by decide) (fun _ => ?_) (fun h => absurd rfl h)
    refine v_aload_n C 0 dSu_learn_8 rfl rfl ?_
    refine v_iconst C 1 dSu_learn_9 (by decide) ?_
    refine v_puti C cfSu (k := 9) (by assumption) rfl w397 rfl (by first | rfl | assumption) (by first | rfl | assumption) dSu_learn_10 ?_
    refine v_aload_n C 0 dSu_learn_13 rfl rfl ?_
    refine v_getr C cfSu (k := 1) (by assumption) rfl (by assumption) w386 dSu_learn_14 ?_
    refine v_aload_n C 0 dSu_learn_17 rfl rfl ?_
    refine v_aload_n C 0 dSu_learn_18 rfl rfl ?_
    refine v_geti C cfSu (k := 6) (by assumption) rfl w393 dSu_learn_19 ?_
    rw [s2_k (show 6 ≠ 9 by decide), hn]
    refine v_aload_n C 0 dSu_learn_22 rfl rfl ?_
    refine v_geti C cfSu (k := 8) (by assumption) rfl w396 dSu_learn_23 ?_
    rw [s2_k (show 8 ≠ 9 by decide)]
    refine v_iconst C 0 dSu_learn_26 (by decide) ?_
    refine v_callV C (c_Sp_explore (kl x) (kD x) g (s2 I u 9 1) J (I u 8) 0 hS hU hn2 (Or.inl rfl)) mwSp_explore cfSp (by assumption) w246 w247 w245 rfl rfl (ble rfl) (ble rfl) (ble rfl) (ble rfl) (ble rfl) dSu_learn_27 ?_
    rintro v g2 I2 J2 ⟨rfl, hq⟩
    have eE : opE (s2 I u 9 1) u = opE I u := by
      funext i k
      show s2 I u 9 1 (u + 14 + i) k = I (u + 14 + i) k
      rw [s2_a (by omega)]
    rw [eE, s2_k (show 5 ≠ 9 by decide)] at hq
    rcases hq with ⟨e1, rfl, ho⟩ | ⟨X, e1, rfl, hX, hK, h4, h5, h6, h7, ho⟩
    · refine v_if_eq C 94 dSu_learn_30 (by decide) (fun _ => ?_) (fun h => absurd rfl h)
      refine v_aload_n C 0 dSu_learn_94 rfl rfl ?_
      refine v_bipush C (-2) dSu_learn_95 (by decide) ?_
      refine v_puti C cfSu (k := 10) (by assumption) rfl w399 rfl rfl rfl dSu_learn_97 ?_
      refine v_aload_n C 0 dSu_learn_100 rfl rfl ?_
      refine v_ldc2 C w328 dSu_learn_101 ?_
      refine v_putl C cfSu (k := 12) (by assumption) rfl w402 rfl rfl rfl dSu_learn_104 ?_
      refine v_aload_n C 0 dSu_learn_107 rfl rfl ?_
      refine v_bipush C (-2) dSu_learn_108 (by decide) ?_
      refine v_puti C cfSu (k := 13) (by assumption) rfl w404 rfl rfl rfl dSu_learn_110 ?_
      refine v_aload_n C 0 dSu_learn_113 rfl rfl ?_
      refine v_bipush C (-2) dSu_learn_114 (by decide) ?_
      refine v_puti C cfSu (k := 11) (by assumption) rfl w401 rfl rfl rfl dSu_learn_116 ?_
      have bu : I2 u = s2 I u 9 1 u := ho.1 u (by omega)
      have bj : J2 u = J u := ho.2 u (by omega)
      refine v_vret C M dSu_learn_119 (ble rfl) (ble rfl) ⟨rfl, rfl, Or.inr ⟨h9, ?_, fun k k1 k2 k3 k4 => ?_, fun k k1 => ?_, fun b b1 b2 b3 => ?_, Or.inl ⟨e1, ?_, ?_, ?_, ?_⟩⟩⟩
      · rw [s2_k (by decide), s2_k (by decide), s2_k (by decide), bu, s2_self]
      · rw [s2_k k3, s2_k k4, s2_k k2, bu, s2_k k1]
      · rw [s2_k k1, bj]
      · rw [s2_off b1, s2_off b1, s2_off b1, s2_off b1, ho.1 b (by omega), ho.2 b (by omega), s2_off b1]
        exact ⟨rfl, rfl⟩
      · rw [s2_k (by decide), s2_k (by decide), s2_self]
      · rw [s2_self]
      · rw [s2_k (by decide), s2_self]
      · rw [s2_self]
    · refine v_if_eq C 94 dSu_learn_30 (by decide) (fun h => absurd h (by decide)) (fun _ => ?_)
      have bu : I2 u = s2 I u 9 1 u := ho.1 u (by omega)
      have bj : J2 u = J u := ho.2 u (by omega)
      refine v_aload_n C 0 dSu_learn_33 rfl rfl ?_
      refine v_aload_n C 0 dSu_learn_34 rfl rfl ?_
      refine v_getr C cfSu (k := 1) (by assumption) rfl (by assumption) w386 dSu_learn_35 ?_
      refine v_getr C cfSp (k := 0) (by assumption) rfl (by assumption) w80 dSu_learn_38 ?_
      refine v_geti C cfTa (k := 4) (by assumption) rfl w45 dSu_learn_41 ?_
      rw [hX.1.2.1]
      refine v_puti C cfSu (k := 10) (by assumption) rfl w399 rfl rfl rfl dSu_learn_44 ?_
      refine v_aload_n C 0 dSu_learn_47 rfl rfl ?_
      refine v_aload_n C 0 dSu_learn_48 rfl rfl ?_
      refine v_getr C cfSu (k := 1) (by assumption) rfl (by assumption) w386 dSu_learn_49 ?_
      have en3 : s2 I2 u 10 (nI X.1) (u + 2 + 1) 4 = nI X.1 := by rw [s2_a (by omega)]; exact hX.1.2.1
      refine v_cVl C (c_Sp_waysToEnds (kl x) (kD x) _ (s2 I2 u 10 (nI X.1)) J2 hS en3 hK.1) mwSp_waysToEnds cfSp (by assumption) w317 w318 w316 rfl rfl (ble rfl) (ble rfl) (ble rfl) (ble rfl) (ble rfl) dSu_learn_52 ?_
      have ew : wsum (s2 I2 u 10 (nI X.1) (u + 2) 6) (s2 I2 u 10 (nI X.1) (u + 2 + 1 + 1)) (J2 (u + 2 + 7)) X.1 = wsum (I u 8) X.2.1 X.2.2.2 X.1 := by
        rw [s2_a (show u + 2 ≠ u by omega), h6]
        exact wsum_congr X.1 (fun i hi => ⟨by rw [s2_a (by omega)]; exact (hX.2 i hi).1, (hX.2 i hi).2.2⟩)
      rw [ew]
      refine v_putl C cfSu (k := 12) (by assumption) rfl w402 rfl rfl rfl dSu_learn_55 ?_
      refine v_aload_n C 0 dSu_learn_58 rfl rfl ?_
      refine v_aload_n C 0 dSu_learn_59 rfl rfl ?_
      refine v_getr C cfSu (k := 1) (by assumption) rfl (by assumption) w386 dSu_learn_60 ?_
      refine v_aload_n C 1 dSu_learn_63 rfl rfl ?_
      refine v_getr C cfSp (k := 0) (by assumption) rfl (by assumption) w80 dSu_learn_64 ?_
      have en4 : s2 I2 u 10 (nI X.1) (u + 2 + 1) 4 = nI X.1 := en3
      refine v_callV C (c_Sp_statesAtEnds (kl x) (kD x) _ _ _ hS hTc (by omega) en4 hK.1) mwSp_statesAtEnds cfSp (by assumption) w325 w326 w324 rfl rfl (ble rfl) (ble rfl) (ble rfl) (ble rfl) (ble rfl) dSu_learn_67 ?_
      rintro v g3 I3 J3 ⟨rfl, rfl, o3⟩
      have es : sae (s2 I2 u 10 (nI X.1) (u + 2) 6) (s2 I2 u 10 (nI X.1) (u + 2 + 1 + 1)) (s2 J2 u 12 (wsum (I u 8) X.2.1 X.2.2.2 X.1) (u + 2 + 1 + 2)) X.1 = sae (I u 8) X.2.1 X.2.2.1 X.1 := by
        rw [s2_a (show u + 2 ≠ u by omega), h6]
        exact sae_congr X.1 (fun i hi => ⟨by rw [s2_a (by omega)]; exact (hX.2 i hi).1, by rw [s2_a (by omega)]; exact (hX.2 i hi).2.1⟩)
      rw [es]
      have cu : I3 u = s2 I2 u 10 (nI X.1) u := o3.1 u (by omega)
      have cj : J3 u = s2 J2 u 12 (wsum (I u 8) X.2.1 X.2.2.2 X.1) u := o3.2 u (by omega)
      refine v_puti C cfSu (k := 13) (by assumption) rfl w404 rfl rfl rfl dSu_learn_70 ?_
      refine v_aload_n C 0 dSu_learn_73 rfl rfl ?_
      refine v_aload_n C 0 dSu_learn_74 rfl rfl ?_
      refine v_getl C cfSu (k := 12) (by assumption) rfl w402 dSu_learn_75 ?_
      rw [cj, s2_self]
      refine v_lconst C 0 dSu_learn_78 (by decide) ?_
      refine v_lcmp C dSu_learn_79 ?_
      have fin : ∀ z : Int32, z = jdg (wsum (I u 8) X.2.1 X.2.2.2 X.1) → V x g3 0 0 (s2 I3 u 13 (nI (sae (I u 8) X.2.1 X.2.2.1 X.1).1)) J3 88 [some (.ref u), some (.ref sc)] [.int z, .ref u] := by
        intro z hz
        refine v_puti C cfSu (k := 11) (by assumption) rfl w401 rfl rfl rfl dSu_learn_88 ?_
        refine v_goto C 119 dSu_learn_91 (by decide) ?_
        have bs : ∀ b, u + 2 ≤ b → b < u + 11 → (s2 (s2 I3 u 13 (nI (sae (I u 8) X.2.1 X.2.2.1 X.1).1)) u 11 z) b = I2 b := fun b b1 b2 => by rw [s2_off (by omega), s2_off (by omega), o3.1 b (by omega), s2_off (by omega)]
        have bt : ∀ b, u + 2 ≤ b → b < u + 11 → J3 b = J2 b := fun b b1 b2 => by rw [o3.2 b (by omega), s2_off (by omega)]
        refine v_vret C M dSu_learn_119 (ble rfl) (ble rfl) ⟨rfl, rfl, Or.inr ⟨h9, ?_, fun k k1 k2 k3 k4 => ?_, fun k k1 => ?_, fun b b1 b2 b3 => ?_, Or.inr ⟨X, e1, ?_, ?_, ?_, ?_, ?_, hK, ?_, ?_, ?_, ?_⟩⟩⟩
        · rw [s2_k (by decide), s2_k (by decide), cu, s2_k (by decide), bu, s2_self]
        · rw [s2_k k3, s2_k k4, cu, s2_k k2, bu, s2_k k1]
        · rw [cj, s2_k k1, bj]
        · rw [s2_off b1, s2_off b1, o3.1 b (by omega), o3.2 b (by omega), s2_off b1, s2_off b1, ho.1 b (by omega), ho.2 b (by omega), s2_off b1]
          exact ⟨rfl, rfl⟩
        · rw [s2_k (by decide), s2_k (by decide), cu, s2_self]
        · rw [cj, s2_self]
        · rw [s2_k (by decide), s2_self]
        · rw [s2_self, hz]
        · refine ⟨hX.1.off (fun b b1 b2 => bs b (by omega) (by omega)) (bt _ (by omega) (by omega)), ?_⟩
          rw [bs (u + 2 + 1 + 1) (by omega) (by omega), bt (u + 2 + 1 + 2) (by omega) (by omega), bt (u + 2 + 7) (by omega) (by omega)]
          exact hX.2
        · rw [bs (u + 2) (by omega) (by omega)]; exact h4
        · rw [bs (u + 2) (by omega) (by omega)]; exact h5
        · rw [bs (u + 2) (by omega) (by omega)]; exact h6
        · rw [bs (u + 2) (by omega) (by omega)]; exact h7
      refine v_if_le C 87 dSu_learn_80 (by decide) (fun c80 => ?_) (fun c80 => ?_)
      · refine v_iconst C 0 dSu_learn_87 (by decide) ?_
        exact fin 0 (by unfold jdg; rw [if_pos ((lg_cmp_le _ _).mp c80)])
      · refine v_iconst C 1 dSu_learn_83 (by decide) ?_
        refine v_goto C 88 dSu_learn_84 (by decide) ?_
        exact fin 1 (by unfold jdg; rw [if_neg (fun h => c80 ((lg_cmp_le _ _).mpr h))])
  · refine v_if_eq C 8 dSu_learn_4 (by decide) (fun h => absurd h h9) (fun _ => ?_)
    exact v_vret C M dSu_learn_7 (ble rfl) (ble rfl) ⟨rfl, rfl, Or.inl ⟨h9, rfl, rfl⟩⟩
def ownR (E : Nat → Nat → Int32) (kind ret : Int32) (n : Nat) : Int32 := match xrun E kind ret 1 n with
  | none => -2
  | some X => jdg (wsum ret X.2.1 X.2.2.2 X.1)
def lroQ (g : GM) (I : MI) (J : MJ) (u sc n : Nat) : Option Value → GM → MI → MJ → Prop := fun v g2 I2 J2 => v = none ∧ g2 = g ∧ (I u 14 ≠ 0 ∧ I2 = I ∧ J2 = J ∨ I u 14 = 0 ∧ I2 u 14 = 1 ∧ I2 u 15 = ownR (opE I u) (I u 5) (I u 8) n ∧ (∀ k, k ≠ 14 → k ≠ 15 → I2 u k = I u k) ∧ (∀ b, b ≠ u → (b < sc ∨ sc + 9 ≤ b) → I2 b = I b) ∧ ∀ b, b < sc ∨ sc + 9 ≤ b → J2 b = J b)
set_option maxHeartbeats 4000000 in
theorem c_Su_learnOwn (l : Launch) (D : va_G) (g : GM) (I : MI) (J : MJ) {u sc n : Nat} (hU : SuAt g u) (hC : SpAt g sc) (hd : sc + 9 ≤ u ∨ u + 30 ≤ sc) (hn : I u 6 = nI n) (hn2 : n ≤ 16) : Ct l ySu_learnOwn bSu_learnOwn 2 none (rmN 5 128) D [.ref u, .ref sc] g I J (lroQ g I J u sc n) := by
  refine Ct.of (by decide) (ble rfl) [some (.ref u), some (.ref sc)] rfl ?_
  intro x C M
  obtain ⟨u0, hO, hS, u11, u12, u13, ur0, ur1, ur2, ur3, ur4⟩ := id hU
  obtain ⟨sc0, hTc, -, -, -, scr0, -⟩ := id hC
  refine v_aload_n C 0 dSu_learnOwn_0 rfl rfl ?_
  refine v_geti C cfSu (k := 14) (by assumption) rfl w406 dSu_learnOwn_1 ?_
  by_cases h9 : I u 14 = 0
  · rw [h9]
    refine v_if_eq C 8 dSu_learnOwn_4 (by decide) (fun _ => ?_) (fun h => absurd rfl h)
    refine v_aload_n C 0 dSu_learnOwn_8 rfl rfl ?_
    refine v_iconst C 1 dSu_learnOwn_9 (by decide) ?_
    refine v_puti C cfSu (k := 14) (by assumption) rfl w406 rfl (by first | rfl | assumption) (by first | rfl | assumption) dSu_learnOwn_10 ?_
    refine v_aload_n C 1 dSu_learnOwn_13 rfl rfl ?_
    refine v_aload_n C 0 dSu_learnOwn_14 rfl rfl ?_
    refine v_aload_n C 0 dSu_learnOwn_15 rfl rfl ?_
    refine v_geti C cfSu (k := 6) (by assumption) rfl w393 dSu_learnOwn_16 ?_
    rw [s2_k (show 6 ≠ 14 by decide), hn]
    refine v_aload_n C 0 dSu_learnOwn_19 rfl rfl ?_
    refine v_geti C cfSu (k := 8) (by assumption) rfl w396 dSu_learnOwn_20 ?_
    rw [s2_k (show 8 ≠ 14 by decide)]
    refine v_iconst C 1 dSu_learnOwn_23 (by decide) ?_
    refine v_callV C (c_Sp_explore (kl x) (kD x) g (s2 I u 14 1) J (I u 8) 1 hC hU hn2 (Or.inr rfl)) mwSp_explore cfSp (by assumption) w246 w247 w245 rfl rfl (ble rfl) (ble rfl) (ble rfl) (ble rfl) (ble rfl) dSu_learnOwn_24 ?_
    rintro v g2 I2 J2 ⟨rfl, hq⟩
    have eE : opE (s2 I u 14 1) u = opE I u := by
      funext i k
      show s2 I u 14 1 (u + 14 + i) k = I (u + 14 + i) k
      rw [s2_a (by omega)]
    rw [eE, s2_k (show 5 ≠ 14 by decide)] at hq
    have fin : ∀ z : Int32, z = ownR (opE I u) (I u 5) (I u 8) n → offB sc 9 (s2 I u 14 1) J I2 J2 → lroQ g2 I J u sc n none g2 (s2 I2 u 15 z) J2 := by
      intro z hz ho
      have bu : I2 u = s2 I u 14 1 u := ho.1 u (by omega)
      refine ⟨rfl, rfl, Or.inr ⟨h9, ?_, ?_, fun k k1 k2 => ?_, fun b b1 b2 => ?_, fun b b2 => ho.2 b b2⟩⟩
      · rw [s2_k (by decide), bu, s2_self]
      · rw [s2_self, hz]
      · rw [s2_k k2, bu, s2_k k1]
      · rw [s2_off b1, ho.1 b b2, s2_off b1]
    rcases hq with ⟨e1, rfl, ho⟩ | ⟨X, e1, rfl, hX, hK, h4, h5, h6, h7, ho⟩
    · refine v_if_eq C 51 dSu_learnOwn_27 (by decide) (fun _ => ?_) (fun h => absurd rfl h)
      refine v_aload_n C 0 dSu_learnOwn_51 rfl rfl ?_
      refine v_bipush C (-2) dSu_learnOwn_52 (by decide) ?_
      refine v_puti C cfSu (k := 15) (by assumption) rfl w408 rfl rfl rfl dSu_learnOwn_54 ?_
      exact v_vret C M dSu_learnOwn_57 (ble rfl) (ble rfl) (fin _ (by unfold ownR; rw [e1]) ho)
    · refine v_if_eq C 51 dSu_learnOwn_27 (by decide) (fun h => absurd h (by decide)) (fun _ => ?_)
      refine v_aload_n C 0 dSu_learnOwn_30 rfl rfl ?_
      refine v_aload_n C 1 dSu_learnOwn_31 rfl rfl ?_
      refine v_cVl C (c_Sp_waysToEnds (kl x) (kD x) _ I2 J2 hC hX.1.2.1 hK.1) mwSp_waysToEnds cfSp (by assumption) w317 w318 w316 rfl rfl (ble rfl) (ble rfl) (ble rfl) (ble rfl) (ble rfl) dSu_learnOwn_32 ?_
      have ew : wsum (I2 sc 6) (I2 (sc + 1 + 1)) (J2 (sc + 7)) X.1 = wsum (I u 8) X.2.1 X.2.2.2 X.1 := by
        rw [h6]
        exact wsum_congr X.1 (fun i hi => ⟨(hX.2 i hi).1, (hX.2 i hi).2.2⟩)
      rw [ew]
      refine v_lconst C 0 dSu_learnOwn_35 (by decide) ?_
      refine v_lcmp C dSu_learnOwn_36 ?_
      refine v_if_le C 44 dSu_learnOwn_37 (by decide) (fun c37 => ?_) (fun c37 => ?_)
      · refine v_iconst C 0 dSu_learnOwn_44 (by decide) ?_
        refine v_puti C cfSu (k := 15) (by assumption) rfl w408 rfl rfl rfl dSu_learnOwn_45 ?_
        refine v_goto C 57 dSu_learnOwn_48 (by decide) ?_
        exact v_vret C M dSu_learnOwn_57 (ble rfl) (ble rfl) (fin _ (by unfold ownR jdg; rw [e1]; show _ = if _ then _ else _; rw [if_pos ((lg_cmp_le _ _).mp c37)]) ho)
      · refine v_iconst C 1 dSu_learnOwn_40 (by decide) ?_
        refine v_goto C 45 dSu_learnOwn_41 (by decide) ?_
        refine v_puti C cfSu (k := 15) (by assumption) rfl w408 rfl rfl rfl dSu_learnOwn_45 ?_
        refine v_goto C 57 dSu_learnOwn_48 (by decide) ?_
        exact v_vret C M dSu_learnOwn_57 (ble rfl) (ble rfl) (fin _ (by unfold ownR jdg; rw [e1]; show _ = if _ then _ else _; rw [if_neg (fun h => c37 ((lg_cmp_le _ _).mpr h))]) ho)
  · refine v_if_eq C 8 dSu_learnOwn_4 (by decide) (fun h => absurd h h9) (fun _ => ?_)
    exact v_vret C M dSu_learnOwn_7 (ble rfl) (ble rfl) ⟨rfl, rfl, Or.inl ⟨h9, rfl, rfl⟩⟩
