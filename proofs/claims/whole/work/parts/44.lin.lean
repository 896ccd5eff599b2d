/-! what holds of an object's caches -/
def fndS (E : Nat → Nat → Int32) (kind ret : Int32) (n : Nat) (u : Nat) (I : MI) (J : MJ) : Prop :=
  (xrun E kind ret 0 n = none ∧ I u 10 = -2 ∧ J u 12 = -2 ∧ I u 13 = -2 ∧ I u 11 = -2) ∨
  ∃ X, xrun E kind ret 0 n = some X ∧ I u 10 = nI X.1 ∧ J u 12 = wsum ret X.2.1 X.2.2.2 X.1 ∧ I u 13 = nI (sae ret X.2.1 X.2.2.1 X.1).1 ∧ I u 11 = jdg (wsum ret X.2.1 X.2.2.2 X.1) ∧ XIs I J (u + 2) X ∧ KInv X ∧ I (u + 2) 5 = nI n ∧ I (u + 2) 6 = ret ∧ I (u + 2) 7 = 0 ∧ (I (u + 2) 4 = 0 ∨ I (u + 2) 4 = 1 ∧ ∃ h0, ∀ i, I (u + 2 + 8) i = hmark E kind ret 0 n X X.1 h0 i)
def SI (I : MI) (J : MJ) (u n : Nat) : Prop := I u 6 = nI n ∧ n ≤ 16 ∧ (I u 9 = 0 ∨ I u 9 = 1) ∧ (I u 9 = 1 → fndS (opE I u) (I u 5) (I u 8) n u I J)
/-- what learning leaves of an object -/
def lsame (u : Nat) (I : MI) (J : MJ) (I2 : MI) (J2 : MJ) : Prop := (∀ k, k ≠ 9 → k ≠ 10 → k ≠ 11 → k ≠ 13 → I2 u k = I u k) ∧ ∀ b, u < b → (b < u + 2 ∨ u + 11 ≤ b) → b < u + 30 → I2 b = I b
theorem lsame.rf {u : Nat} {I : MI} {J : MJ} : lsame u I J I J := ⟨fun _ _ _ _ _ => rfl, fun _ _ _ _ => rfl⟩
theorem lsame.tr {u : Nat} {I I2 I3 : MI} {J J2 J3 : MJ} (h : lsame u I J I2 J2) (h2 : lsame u I2 J2 I3 J3) : lsame u I J I3 J3 := ⟨fun k a b c d => by rw [h2.1 k a b c d]; exact h.1 k a b c d, fun b q1 q2 q3 => by rw [h2.2 b q1 q2 q3]; exact h.2 b q1 q2 q3⟩
theorem lsame.op {u : Nat} {I I2 : MI} {J J2 : MJ} (h : lsame u I J I2 J2) : ∀ i k, i < 16 → opE I2 u i k = opE I u i k := fun i k hi => by
  show I2 _ _ = I _ _
  rw [h.2 _ (by omega) (by omega) (by omega)]
theorem hmark_congr {E E2 : Nat → Nat → Int32} {kind ret own : Int32} {cnt : Nat} {X : XS} (hc : cnt ≤ 16) (h : ∀ i k, i < 16 → E2 i k = E i k) : ∀ (m : Nat) (hop : Nat → Int32), hmark E2 kind ret own cnt X m hop = hmark E kind ret own cnt X m hop
  | 0, _ => rfl
  | m + 1, hop => by
    have e1 : ∀ p, p < 16 → tgX E2 kind ret own X m p = tgX E kind ret own X m p := fun p hp => by
      unfold tgX
      rw [stp_congr hp h]
    have e2 : ∀ (q p : Nat) (z : Int32), p + q ≤ 16 → hscan (tgX E2 kind ret own X m) hop q p z = hscan (tgX E kind ret own X m) hop q p z := by
      intro q
      induction q with
      | zero => intro p z _; rfl
      | succ q ih =>
        intro p z hp
        simp only [hscan]
        rw [e1 p (by omega), ih (p + 1) _ (by omega)]
    simp only [hmark]
    rw [e2 cnt 0 _ (by omega), hmark_congr hc h m]
theorem fndS_congr {E E2 : Nat → Nat → Int32} {kind ret : Int32} {n u : Nat} {I : MI} {J : MJ} (hn : n ≤ 16) (h : ∀ i k, i < 16 → E2 i k = E i k) (hf : fndS E kind ret n u I J) : fndS E2 kind ret n u I J := by
  unfold fndS at hf ⊢
  rw [xrun_congr hn h]
  rcases hf with hf | ⟨X, h1, h2, h3, h4, h5, h6, h7, h8, h9, h10, h11⟩
  · exact Or.inl hf
  · refine Or.inr ⟨X, h1, h2, h3, h4, h5, h6, h7, h8, h9, h10, ?_⟩
    rcases h11 with h11 | ⟨h11, z, hz⟩
    · exact Or.inl h11
    · exact Or.inr ⟨h11, z, fun i => by rw [hmark_congr hn h]; exact hz i⟩
/-- what is found lies in the block -/
theorem fndS_mem {E : Nat → Nat → Int32} {kind ret : Int32} {n u : Nat} {I I2 : MI} {J J2 : MJ} (h1 : ∀ b, u ≤ b → b < u + 11 → I2 b = I b) (h2 : ∀ b, u ≤ b → b < u + 11 → J2 b = J b) (hf : fndS E kind ret n u I J) : fndS E kind ret n u I2 J2 := by
  have e1 := h1 u (by omega) (by omega)
  have e2 := h2 u (by omega) (by omega)
  have e3 := h1 (u + 2) (by omega) (by omega)
  have e4 := h1 (u + 2 + 8) (by omega) (by omega)
  unfold fndS at hf ⊢
  rw [e1, e2, e3, e4]
  rcases hf with hf | ⟨X, g1, g2, g3, g4, g5, g6, g7⟩
  · exact Or.inl hf
  · refine Or.inr ⟨X, g1, g2, g3, g4, g5, ⟨g6.1.off (fun b b1 b2 => h1 b (by omega) (by omega)) (h2 _ (by omega) (by omega)), ?_⟩, g7⟩
    rw [h1 (u + 2 + 1 + 1) (by omega) (by omega), h2 (u + 2 + 1 + 2) (by omega) (by omega), h2 (u + 2 + 7) (by omega) (by omega)]
    exact g6.2
theorem SI_mem {I I2 : MI} {J J2 : MJ} {u n : Nat} (h1 : ∀ b, u ≤ b → b < u + 30 → I2 b = I b) (h2 : ∀ b, u ≤ b → b < u + 30 → J2 b = J b) (h : SI I J u n) : SI I2 J2 u n := by
  obtain ⟨a1, a2, a3, a4⟩ := h
  have e1 := h1 u (by omega) (by omega)
  refine ⟨by rw [e1]; exact a1, a2, by rw [e1]; exact a3, fun h9 => ?_⟩
  rw [e1] at h9 ⊢
  exact fndS_mem (fun b b1 b2 => h1 b b1 (by omega)) (fun b b1 b2 => h2 b b1 (by omega)) (fndS_congr a2 (fun i k hi => by show I2 _ _ = I _ _; rw [h1 _ (by omega) (by omega)]) (a4 h9))
/-- behind learn() -/
theorem lrn_SI {g g2 : GM} {I I2 : MI} {J J2 : MJ} {u sc n : Nat} {v : Option Value} (h : SI I J u n) (hd : sc + 9 ≤ u ∨ u + 30 ≤ sc) (hq : lrnQ g I J u sc n v g2 I2 J2) : SI I2 J2 u n ∧ I2 u 9 = 1 ∧ lsame u I J I2 J2 ∧ (∀ b, (b < u ∨ u + 30 ≤ b) → (b < sc ∨ sc + 9 ≤ b) → I2 b = I b ∧ J2 b = J b) := by
  obtain ⟨-, -, hq⟩ := hq
  obtain ⟨a1, a2, a3, a4⟩ := id h
  rcases hq with ⟨q1, rfl, rfl⟩ | ⟨q0, q1, q2, q3, q4, q5⟩
  · refine ⟨h, ?_, lsame.rf, fun _ _ _ => ⟨rfl, rfl⟩⟩
    rcases a3 with a3 | a3
    · exact absurd a3 q1
    · exact a3
  · have ls : lsame u I J I2 J2 := ⟨q2, fun b b1 b2 b3 => (q4 b (by omega) (by omega) (by omega)).1⟩
    refine ⟨⟨by rw [q2 6 (by decide) (by decide) (by decide) (by decide)]; exact a1, a2, Or.inr q1, fun _ => ?_⟩, q1, ls, fun b b1 b2 => q4 b (by omega) (by omega) (by omega)⟩
    rw [q2 5 (by decide) (by decide) (by decide) (by decide), q2 8 (by decide) (by decide) (by decide) (by decide)]
    refine fndS_congr a2 ls.op ?_
    rcases q5 with q5 | ⟨X, g1, g2, g3, g4, g5, g6, g7, g8, g9, g10, g11⟩
    · exact Or.inl q5
    · exact Or.inr ⟨X, g1, g2, g3, g4, g5, g6, g7, g9, g10, g11, Or.inl g8⟩
/-- the judgement, of the data alone -/
def jP (E : Nat → Nat → Int32) (kind ret : Int32) (n : Nat) : Int32 := match xrun E kind ret 0 n with
  | none => -2
  | some X => jdg (wsum ret X.2.1 X.2.2.2 X.1)
theorem fndS_j {E : Nat → Nat → Int32} {kind ret : Int32} {n u : Nat} {I : MI} {J : MJ} (h : fndS E kind ret n u I J) : I u 11 = jP E kind ret n := by
  unfold jP
  rcases h with ⟨h1, -, -, -, h5⟩ | ⟨X, h1, -, -, -, h5, -⟩
  · rw [h1]; exact h5
  · rw [h1]; exact h5
def linA (j : Nat → Int32) : Nat → Nat → Int32 → Int32
  | 0, _, ans => ans
  | m + 1, k, ans => if j k = 0 then 0 else linA j m (k + 1) (if j k = -2 then -2 else ans)
/-- the subjects of the objects that there are -/
def SubW (g : GM) (a no : Nat) (sb : Nat → Nat) : Prop := no ≤ 6 ∧ (∀ k, k < no → subQ g a k (sb k)) ∧ ∀ k j, k < j → j < no → sb k + 30 ≤ sb j
abbrev jM (I : MI) (sb cnt : Nat → Nat) (k : Nat) : Int32 := jP (opE I (sb k)) (I (sb k) 5) (I (sb k) 8) (cnt k)
def outW (a no : Nat) (sb : Nat → Nat) (I : MI) (J : MJ) (I2 : MI) (J2 : MJ) : Prop := ∀ b, (∀ k, k < no → b < sb k ∨ sb k + 30 ≤ b) → (b < a + 6 ∨ a + 15 ≤ b) → I2 b = I b ∧ J2 b = J b
def linQ (g : GM) (I : MI) (J : MJ) (a no : Nat) (sb cnt : Nat → Nat) : Option Value → GM → MI → MJ → Prop := fun v g2 I2 J2 => g2 = g ∧ v = some (.int (linA (jM I sb cnt) no 0 1)) ∧ (∀ k, k < no → SI I2 J2 (sb k) (cnt k) ∧ lsame (sb k) I J I2 J2) ∧ outW a no sb I J I2 J2 ∧ (linA (jM I sb cnt) no 0 1 ≠ 0 → ∀ k, k < no → I2 (sb k) 9 = 1)
theorem linA_0 {j : Nat → Int32} : ∀ (m k : Nat) (ans : Int32), ans ≠ 0 → linA j m k ans ≠ 0 → ∀ i, k ≤ i → i < k + m → j i ≠ 0
  | 0, k, _, _, _ => fun i h1 h2 => by omega
  | m + 1, k, ans, ha, h => by
    simp only [linA] at h
    split at h
    · exact absurd rfl h
    · rename_i hk
      intro i h1 h2
      rcases Nat.lt_or_ge k i with h3 | h3
      · refine linA_0 m (k + 1) _ ?_ h i h3 (by omega)
        split
        · decide
        · exact ha
      · have : i = k := by omega
        rw [this]
        exact hk
set_option maxHeartbeats 4000000 in
theorem c_LH_linear (l : Launch) (D : va_G) (g : GM) (I : MI) (J : MJ) {a no : Nat} {sb cnt : Nat → Nat} (hA : LHAt g a) (hno : I a 11 = nI no) (hW : SubW g a no sb) (hSI : ∀ k, k < no → SI I J (sb k) (cnt k)) : Ct l yLH_linear bLH_linear 4 (some .int) (rmN 6 149) D [.ref a] g I J (linQ g I J a no sb cnt) := by
  refine Ct.of (by decide) (ble rfl) [some (.ref a), none, none, none] rfl ?_
  intro x C M
  obtain ⟨a0, a1, a2, a3, a4, a5, hS, a15, a16, a17, r0, r1, r2, r3, r4, r5, r6, r7, r8⟩ := id hA
  obtain ⟨hn6, hsub, hdis⟩ := hW
  have djk : ∀ k j, k < no → j < no → k ≠ j → sb k + 30 ≤ sb j ∨ sb j + 30 ≤ sb k := fun k j hk hj hne => by
    rcases Nat.lt_or_ge k j with h | h
    · exact Or.inl (hdis k j h hj)
    · exact Or.inr (hdis j k (by omega) hk)
  refine v_iconst C 1 dLH_linear_0 (by decide) ?_
  refine v_istore_n C 1 dLH_linear_1 rfl (ble rfl) rfl ?_
  refine v_iconst C 0 dLH_linear_2 (by decide) ?_
  refine v_istore_n C 2 dLH_linear_3 rfl (ble rfl) rfl ?_
  have loop : ∀ (m k : Nat) (ans : Int32) (Ic : MI) (Jc : MJ), k + m = no → ans ≠ 0 → linA (jM I sb cnt) m k ans = linA (jM I sb cnt) no 0 1 → (∀ j, j < no → SI Ic Jc (sb j) (cnt j) ∧ lsame (sb j) I J Ic Jc) → outW a no sb I J Ic Jc → (∀ j, j < k → Ic (sb j) 9 = 1) → V x g 0 0 Ic Jc 4 [some (.ref a), some (.int ans), some (.int (nI k)), none] [] := by
    intro m
    induction m with
    | zero =>
      intro k ans Ic Jc h1 ha he hs ho hl
      have ea : Ic a = I a := (ho a (fun j hj => Or.inl (by have := (hsub j hj).2.2; omega)) (by omega)).1
      refine v_iload_n C 2 dLH_linear_4 rfl rfl ?_
      refine v_aload_n C 0 dLH_linear_5 rfl rfl ?_
      refine v_geti C cfLH (k := 11) (by assumption) rfl w122 dLH_linear_6 ?_
      rw [ea, hno]
      refine v_icmp_ge C 53 dLH_linear_9 (by decide) (fun _ => ?_) (fun h => absurd (nI_le (by omega) (by omega)) h)
      refine v_iload_n C 1 dLH_linear_53 rfl rfl ?_
      exact v_iret C M dLH_linear_54 (ble rfl) (ble rfl) ⟨rfl, by rw [← he]; rfl, hs, ho, fun _ j hj => hl j (by omega)⟩
    | succ m ih =>
      intro k ans Ic Jc h1 ha he hs ho hl
      have hk : k < no := by omega
      obtain ⟨q1, hU, hau⟩ := hsub k hk
      have u0 := hU.1
      have ea : Ic a = I a := (ho a (fun j hj => Or.inl (by have := (hsub j hj).2.2; omega)) (by omega)).1
      refine v_iload_n C 2 dLH_linear_4 rfl rfl ?_
      refine v_aload_n C 0 dLH_linear_5 rfl rfl ?_
      refine v_geti C cfLH (k := 11) (by assumption) rfl w122 dLH_linear_6 ?_
      rw [ea, hno]
      refine v_icmp_ge C 53 dLH_linear_9 (by decide) (fun h => absurd h (nI_ge hk (by omega))) (fun _ => ?_)
      refine v_aload_n C 0 dLH_linear_12 rfl rfl ?_
      refine v_iload_n C 2 dLH_linear_13 rfl rfl ?_
      refine v_cVr C (c_LH_subjectOf (kl x) (kD x) g Ic Jc hA (by rw [ea]; exact hno) hn6 hk q1) mwLH_subjectOf cfLH (by assumption) w171 ws0 w169 rfl rfl (ble rfl) (ble rfl) (ble rfl) (ble rfl) (ble rfl) dLH_linear_14 ?_
      refine v_astore_n C 3 dLH_linear_17 rfl (ble rfl) rfl ?_
      refine v_aload_n C 3 dLH_linear_18 rfl rfl ?_
      refine v_aload_n C 0 dLH_linear_19 rfl rfl ?_
      refine v_getr C cfLH (k := 5) (by assumption) rfl (by assumption) w116 dLH_linear_20 ?_
      refine v_callV C (c_Su_learn (kl x) (kD x) g Ic Jc hU hS (by omega) (hs k hk).1.1 (hs k hk).1.2.1) mwSu_learn cfSu (by assumption) w242 w243 w241 rfl rfl (ble rfl) (ble rfl) (ble rfl) (ble rfl) (ble rfl) dLH_linear_23 ?_
      intro v g2 I2 J2 hq
      have hv := hq.1
      subst hv
      have hg := hq.2.1
      subst hg
      obtain ⟨s1, s9, s3, s4⟩ := lrn_SI (hs k hk).1 (by omega) hq
      have hs2 : ∀ j, j < no → SI I2 J2 (sb j) (cnt j) ∧ lsame (sb j) I J I2 J2 := fun j hj => by
        by_cases hjk : j = k
        · subst hjk
          exact ⟨s1, (hs j hj).2.tr s3⟩
        · have hd := djk j k hj hk hjk
          have hj2 := (hsub j hj).2.2
          refine ⟨SI_mem (fun b b1 b2 => (s4 b (by omega) (by omega)).1) (fun b b1 b2 => (s4 b (by omega) (by omega)).2) (hs j hj).1, (hs j hj).2.tr ⟨fun i _ _ _ _ => by rw [(s4 (sb j) (by omega) (by omega)).1], fun b b1 b2 b3 => (s4 b (by omega) (by omega)).1⟩⟩
      have ho2 : outW a no sb I J I2 J2 := fun b b1 b2 => by
        have h5 := s4 b (b1 k hk) (by omega)
        have h6 := ho b b1 b2
        exact ⟨h5.1.trans h6.1, h5.2.trans h6.2⟩
      have hl2 : ∀ j, j < k + 1 → I2 (sb j) 9 = 1 := fun j hj => by
        by_cases hjk : j = k
        · rw [hjk]; exact s9
        · have hd := djk j k (by omega) hk hjk
          have hj2 := (hsub j (by omega)).2.2
          rw [(s4 (sb j) (by omega) (by omega)).1]
          exact hl j (by omega)
      have ej : I2 (sb k) 11 = jM I sb cnt k := by
        rw [fndS_j (s1.2.2.2 s9)]
        have l2 := (hs2 k hk).2
        unfold jP
        rw [l2.1 5 (by decide) (by decide) (by decide) (by decide), l2.1 8 (by decide) (by decide) (by decide) (by decide), xrun_congr s1.2.1 l2.op]
        rfl
      refine v_aload_n C 3 dLH_linear_26 rfl rfl ?_
      refine v_geti C cfSu (k := 11) (by assumption) rfl w400 dLH_linear_27 ?_
      rw [ej]
      by_cases hz : jM I sb cnt k = 0
      · rw [hz]
        refine v_if_ne C 35 dLH_linear_30 (by decide) (fun h => absurd rfl h) (fun _ => ?_)
        refine v_iconst C 0 dLH_linear_33 (by decide) ?_
        have e0 : linA (jM I sb cnt) no 0 1 = 0 := by
          rw [← he]
          simp only [linA, if_pos hz]
        exact v_iret C M dLH_linear_34 (ble rfl) (ble rfl) ⟨rfl, by rw [e0], hs2, ho2, fun h => absurd e0 h⟩
      · refine v_if_ne C 35 dLH_linear_30 (by decide) (fun _ => ?_) (fun h => absurd h hz)
        refine v_aload_n C 3 dLH_linear_35 rfl rfl ?_
        refine v_geti C cfSu (k := 11) (by assumption) rfl w400 dLH_linear_36 ?_
        rw [ej]
        refine v_bipush C (-2) dLH_linear_39 (by decide) ?_
        by_cases hm : jM I sb cnt k = -2
        · rw [hm]
          refine v_icmp_ne C 47 dLH_linear_41 (by decide) (fun h => absurd rfl h) (fun _ => ?_)
          refine v_bipush C (-2) dLH_linear_44 (by decide) ?_
          refine v_istore_n C 1 dLH_linear_46 rfl (ble rfl) rfl ?_
          refine v_iinc C (nI (k + 1)) dLH_linear_47 rfl (nI_1 k) (ble rfl) rfl ?_
          refine v_goto C 4 dLH_linear_50 (by decide) ?_
          refine V.drop (lv2 := [some (.ref a), some (.int (-2)), some (.int (nI (k + 1))), none]) ?_ ⟨rfl, rfl, rfl, trivial⟩
          refine ih (k + 1) (-2) I2 J2 (by omega) (by decide) ?_ hs2 ho2 hl2
          rw [← he]
          simp only [linA, if_neg hz, if_pos hm]
        · refine v_icmp_ne C 47 dLH_linear_41 (by decide) (fun _ => ?_) (fun h => absurd h hm)
          refine v_iinc C (nI (k + 1)) dLH_linear_47 rfl (nI_1 k) (ble rfl) rfl ?_
          refine v_goto C 4 dLH_linear_50 (by decide) ?_
          refine V.drop (lv2 := [some (.ref a), some (.int ans), some (.int (nI (k + 1))), none]) ?_ ⟨rfl, rfl, rfl, trivial⟩
          refine ih (k + 1) ans I2 J2 (by omega) ha ?_ hs2 ho2 hl2
          rw [← he]
          simp only [linA, if_neg hz, if_neg hm]
  exact loop no 0 1 I J (by omega) (by decide) rfl (fun k hk => ⟨hSI k hk, lsame.rf⟩) (fun _ _ _ => ⟨rfl, rfl⟩) (fun j hj => absurd hj (Nat.not_lt_zero j))
