abbrev TT : Type := Nat × (Nat → Int32) × (Nat → Int64)
def tins (T : TT) (key : Int32) (w : Int64) : TT := if lk T.2.1 T.2.2 key w T.1 = -1 ∧ T.1 < 2000 then (T.1 + 1, upF T.2.1 T.1 key, upF T.2.2 T.1 w) else T
def sae (ret : Int32) (K : Nat → Int32) (W9 : Nat → Int64) : Nat → TT
  | 0 => (0, fun _ => 0, fun _ => 0)
  | m + 1 => if isE ret (K m) then tins (sae ret K W9 m) (jiu (K m) 16) (W9 m) else sae ret K W9 m
def TIs (I : MI) (J : MJ) (t : Nat) (T : TT) : Prop := TabOK I J t T.1 ∧ ∀ i, i < T.1 → I (t + 1) i = T.2.1 i ∧ J (t + 2) i = T.2.2 i
theorem TIs_keep {g g2 : GM} {I I2 : MI} {J J2 : MJ} {t : Nat} {T : TT} {key : Int32} {w : Int64} {v : Option Value} (h : TIs I J t T) (hq : keepQ g I J t T.1 key w v g2 I2 J2) : g2 = g ∧ (∃ z, v = some (.int z)) ∧ TIs I2 J2 t (tins T key w) ∧ offB t 5 I J I2 J2 := by
  obtain ⟨e, hq⟩ := hq
  have el : lk (I (t + 1)) (J (t + 2)) key w T.1 = lk T.2.1 T.2.2 key w T.1 := lk_congr T.1 h.2
  rw [el] at hq
  rcases hq with ⟨h1, h2, h3, h4⟩ | ⟨h1, h2, h3, r1, r2, r3, r4, r5, r6, r7⟩
  · subst h3; subst h4
    have e2 : tins T key w = T := by
      unfold tins
      rw [if_neg]
      rintro ⟨q1, q2⟩
      rcases h1 with h1 | h1
      · exact h1 q1
      · omega
    rw [e2]
    exact ⟨e, ⟨_, h2⟩, h, fun _ _ => rfl, fun _ _ => rfl⟩
  · have e2 : tins T key w = (T.1 + 1, upF T.2.1 T.1 key, upF T.2.2 T.1 w) := by
      unfold tins
      rw [if_pos ⟨h1, h2⟩]
    rw [e2]
    refine ⟨e, ⟨_, h3⟩, ⟨r1, fun i hi => ?_⟩, fun b hb => r6 b hb, fun b hb => r7 b hb⟩
    have hi : i < T.1 + 1 := hi
    show _ = upF T.2.1 T.1 key i ∧ _ = upF T.2.2 T.1 w i
    unfold upF
    by_cases hq : i = T.1
    · subst hq
      exact ⟨by rw [if_pos rfl]; exact r2, by rw [if_pos rfl]; exact r3⟩
    · have h9 := h.2 i (by omega)
      exact ⟨by rw [if_neg hq, r4 i hq]; exact h9.1, by rw [if_neg hq, r5 i hq]; exact h9.2⟩
theorem c_Sp_statesAtEnds (l : Launch) (D : va_G) (g : GM) (I : MI) (J : MJ) {s t n : Nat} (hS : SpAt g s) (hT : TaAt g t) (hd : t + 5 ≤ s ∨ s + 9 ≤ t) (hn : I (s + 1) 4 = nI n) (hn2 : n ≤ 2000) : Ct l ySp_statesAtEnds bSp_statesAtEnds 3 (some .int) (rmN 2 51) D [.ref s, .ref t] g I J (fun v g2 I2 J2 => g2 = g ∧ v = some (.int (nI (sae (I s 6) (I (s + 1 + 1)) (J (s + 1 + 2)) n).1)) ∧ offB t 5 I J I2 J2) := by
  refine Ct.of (by decide) (ble rfl) [some (.ref s), some (.ref t), none] rfl ?_
  intro x C M
  obtain ⟨s0, ⟨t0, t1, t2, t3, t4, r0, r1, r2, r3⟩, s6, s7, s8, sr0, sr1, sr2, sr3⟩ := id hS
  have tt0 := hT.1
  refine v_aload_n C 1 dSp_statesAtEnds_0 rfl rfl ?_
  refine v_callV C (c_Ta_makeEmpty (kl x) (kD x) g I J hT) mwTa_makeEmpty cfTa (by assumption) w250 w251 w249 rfl rfl (ble rfl) (ble rfl) (ble rfl) (ble rfl) (ble rfl) dSp_statesAtEnds_1 ?_
  rintro v g2 I2 J2 ⟨rfl, rfl, rfl, m1, m2⟩
  refine v_iconst C 0 dSp_statesAtEnds_4 (by decide) ?_
  refine v_istore_n C 2 dSp_statesAtEnds_5 rfl (ble rfl) rfl ?_
  have loop : ∀ (m i : Nat) (Ic : MI) (Jc : MJ), i + m = n → TIs Ic Jc t (sae (I s 6) (I (s + 1 + 1)) (J2 (s + 1 + 2)) i) → offB t 5 I J2 Ic Jc → V x g2 0 0 Ic Jc 6 [some (.ref s), some (.ref t), some (.int (nI i))] [] := by
    intro m
    induction m with
    | zero =>
      intro i Ic Jc h1 hX ho
      refine v_iload_n C 2 dSp_statesAtEnds_6 rfl rfl ?_
      refine v_aload_n C 0 dSp_statesAtEnds_7 rfl rfl ?_
      refine v_getr C cfSp (k := 0) (by assumption) rfl (by assumption) w79 dSp_statesAtEnds_8 ?_
      refine v_geti C cfTa (k := 4) (by assumption) rfl w44 dSp_statesAtEnds_11 ?_
      rw [ho.1 (s + 1) (by omega), hn]
      refine v_icmp_ge C 57 dSp_statesAtEnds_14 (by decide) (fun _ => ?_) (fun h => absurd (nI_le (by omega) (by omega)) h)
      refine v_aload_n C 1 dSp_statesAtEnds_57 rfl rfl ?_
      refine v_geti C cfTa (k := 4) (by assumption) rfl w44 dSp_statesAtEnds_58 ?_
      have h3 : i = n := by omega
      rw [hX.1.2.1]
      exact v_iret C M dSp_statesAtEnds_61 (ble rfl) (ble rfl) ⟨rfl, by rw [h3], ho⟩
    | succ m ih =>
      intro i Ic Jc h1 hX ho
      have hi : i < 2000 := by omega
      have hic : (nI i).toNatClampNeg = i := nI_clamp (by omega)
      have hii : vp_in (nI i) 2000 := vp_in_nI hi (by decide)
      have k1 : Ic (s + 1 + 1) = I (s + 1 + 1) := ho.1 _ (by omega)
      have k2 : Jc (s + 1 + 2) = J2 (s + 1 + 2) := ho.2 _ (by omega)
      have k3 : Ic s = I s := ho.1 _ (by omega)
      refine v_iload_n C 2 dSp_statesAtEnds_6 rfl rfl ?_
      refine v_aload_n C 0 dSp_statesAtEnds_7 rfl rfl ?_
      refine v_getr C cfSp (k := 0) (by assumption) rfl (by assumption) w79 dSp_statesAtEnds_8 ?_
      refine v_geti C cfTa (k := 4) (by assumption) rfl w44 dSp_statesAtEnds_11 ?_
      rw [ho.1 (s + 1) (by omega), hn]
      refine v_icmp_ge C 57 dSp_statesAtEnds_14 (by decide) (fun h => absurd h (nI_ge (by omega) (by omega))) (fun _ => ?_)
      refine v_aload_n C 0 dSp_statesAtEnds_17 rfl rfl ?_
      refine v_iload_n C 2 dSp_statesAtEnds_18 rfl rfl ?_
      refine v_cVi C (c_Sp_isEnd (kl x) (kD x) g2 Ic Jc hS hi) mwSp_isEnd cfSp (by assumption) w321 w322 w320 rfl rfl (ble rfl) (ble rfl) (ble rfl) (ble rfl) (ble rfl) dSp_statesAtEnds_19 ?_
      rw [k1, k3]
      by_cases hE : isE (I s 6) (I (s + 1 + 1) i)
      · rw [if_pos hE]
        refine v_if_eq C 51 dSp_statesAtEnds_22 (by decide) (fun h => absurd h (by decide)) (fun _ => ?_)
        refine v_aload_n C 1 dSp_statesAtEnds_25 rfl rfl ?_
        refine v_aload_n C 0 dSp_statesAtEnds_26 rfl rfl ?_
        refine v_getr C cfSp (k := 0) (by assumption) rfl (by assumption) w79 dSp_statesAtEnds_27 ?_
        refine v_getr C cfTa (k := 0) (by assumption) rfl (by assumption) w38 dSp_statesAtEnds_30 ?_
        refine v_iload_n C 2 dSp_statesAtEnds_33 rfl rfl ?_
        refine v_iald C (by assumption) (by assumption) dSp_statesAtEnds_34 ?_
        rw [hic, k1]
        refine v_bipush C 16 dSp_statesAtEnds_35 (by decide) ?_
        refine v_iushr C dSp_statesAtEnds_37 ?_
        refine v_aload_n C 0 dSp_statesAtEnds_38 rfl rfl ?_
        refine v_getr C cfSp (k := 0) (by assumption) rfl (by assumption) w79 dSp_statesAtEnds_39 ?_
        refine v_getr C cfTa (k := 1) (by assumption) rfl (by assumption) w40 dSp_statesAtEnds_42 ?_
        refine v_iload_n C 2 dSp_statesAtEnds_45 rfl rfl ?_
        refine v_lald C (by assumption) (by assumption) dSp_statesAtEnds_46 ?_
        rw [hic, k2]
        refine v_callV C (c_Ta_keep (kl x) (kD x) g2 Ic Jc _ _ hT hX.1) mwTa_keep cfTa (by assumption) w255 w256 w254 rfl rfl (ble rfl) (ble rfl) (ble rfl) (ble rfl) (ble rfl) dSp_statesAtEnds_47 ?_
        intro v g3 I3 J3 hq
        obtain ⟨rfl, ⟨z, rfl⟩, hX3, ho3⟩ := TIs_keep hX hq
        refine v_pop C dSp_statesAtEnds_50 rfl ?_
        refine v_iinc C (nI (i + 1)) dSp_statesAtEnds_51 rfl (nI_1 i) (ble rfl) rfl ?_
        refine v_goto C 6 dSp_statesAtEnds_54 (by decide) ?_
        refine ih (i + 1) I3 J3 (by omega) ?_ ⟨fun b hb => by rw [ho3.1 b hb]; exact ho.1 b hb, fun b hb => by rw [ho3.2 b hb]; exact ho.2 b hb⟩
        simp only [sae, if_pos hE]
        exact hX3
      · rw [if_neg hE]
        refine v_if_eq C 51 dSp_statesAtEnds_22 (by decide) (fun _ => ?_) (fun h => absurd rfl h)
        refine v_iinc C (nI (i + 1)) dSp_statesAtEnds_51 rfl (nI_1 i) (ble rfl) rfl ?_
        refine v_goto C 6 dSp_statesAtEnds_54 (by decide) ?_
        refine ih (i + 1) Ic Jc (by omega) ?_ ho
        simp only [sae, if_neg hE]
        exact hX
  exact loop n 0 I2 J2 (by omega) ⟨m1, fun i hi => absurd hi (Nat.not_lt_zero i)⟩ ⟨fun b hb => m2 b hb, fun _ _ => rfl⟩
/-! which possibilities can still come to an end -/
def tgX (E : Nat → Nat → Int32) (kind ret own : Int32) (X : XS) (f p : Nat) : Int32 := match stp E kind ret own (X.2.1 f) (X.2.2.1 f) p with
  | none => -1
  | some c => lk X.2.1 X.2.2.1 (keyB (X.2.1 f) p c.2.1) c.1 X.1
def hscan (tg : Nat → Int32) (hop : Nat → Int32) : Nat → Nat → Int32 → Int32
  | 0, _, h => h
  | m + 1, p, h => if h = 0 then hscan tg hop m (p + 1) (if tg p ≠ -1 ∧ hop (ix (tg p)) ≠ 0 then 1 else 0) else h
def hmark (E : Nat → Nat → Int32) (kind ret own : Int32) (cnt : Nat) (X : XS) : Nat → (Nat → Int32) → Nat → Int32
  | 0, hop => hop
  | m + 1, hop => hmark E kind ret own cnt X m (upF hop m (hscan (tgX E kind ret own X m) hop cnt 0 (if isE ret (X.2.1 m) then 1 else 0)))
theorem dec1 (y : Int32) : y + Int32.ofInt (-1) = y - 1 := (Int32.sub_eq_add_neg y 1).symm
def hopQ (g : GM) (I : MI) (J : MJ) (s u cnt : Nat) (ret own : Int32) (X : XS) : Option Value → GM → MI → MJ → Prop := fun v g2 I2 J2 => v = none ∧ g2 = g ∧ I2 s 4 = 1 ∧ (∀ k, k ≠ 4 → I2 s k = I s k) ∧ (∀ b, b ≠ s → b ≠ s + 6 → b ≠ s + 8 → I2 b = I b) ∧ (∀ b, b ≠ s + 6 → J2 b = J b) ∧ ∃ h0, ∀ i, I2 (s + 8) i = hmark (opE I u) (I u 5) ret own cnt X X.1 h0 i
set_option maxHeartbeats 4000000 in
theorem c_Sp_markHopeful (l : Launch) (D : va_G) (g : GM) (I : MI) (J : MJ) {s u cnt : Nat} {ret own : Int32} {X : XS} (hS : SpAt g s) (hU : SuAt g u) (hcnt : cnt ≤ 16) (hX : XIs I J s X) (hK : KInv X) (h4 : I s 4 = 0) (h5 : I s 5 = nI cnt) (h6 : I s 6 = ret) (h7 : I s 7 = own) : Ct l ySp_markHopeful bSp_markHopeful 6 none (rmN 5 123) D [.ref s, .ref u] g I J (hopQ g I J s u cnt ret own X) := by
  refine Ct.of (by decide) (ble rfl) [some (.ref s), some (.ref u), none, none, none, none] rfl ?_
  intro x C M
  obtain ⟨s0, ⟨t0, t1, t2, t3, t4, r0, r1, r2, r3⟩, s6, s7, s8, sr0, sr1, sr2, sr3⟩ := id hS
  obtain ⟨u0, hO, -⟩ := id hU
  have ou := sp_out hS u0 (by decide)
  have oo : ∀ i, i < 16 → u + 14 + i < s ∨ s + 9 ≤ u + 14 + i := fun i hi => sp_out hS (hO.2 i hi).2 (by decide)
  have hb := hK.1
  refine v_aload_n C 0 dSp_markHopeful_0 rfl rfl ?_
  refine v_geti C cfSp (k := 4) (by assumption) rfl w86 dSp_markHopeful_1 ?_
  rw [h4]
  refine v_if_eq C 8 dSp_markHopeful_4 (by decide) (fun _ => ?_) (fun h => absurd rfl h)
  refine v_aload_n C 0 dSp_markHopeful_8 rfl rfl ?_
  refine v_iconst C 1 dSp_markHopeful_9 (by decide) ?_
  refine v_puti C cfSp (k := 4) (by assumption) rfl w86 rfl (by first | rfl | assumption) (by first | rfl | assumption) dSp_markHopeful_10 ?_
  refine v_aload_n C 0 dSp_markHopeful_13 rfl rfl ?_
  refine v_getr C cfSp (k := 0) (by assumption) rfl (by assumption) w79 dSp_markHopeful_14 ?_
  refine v_geti C cfTa (k := 4) (by assumption) rfl w44 dSp_markHopeful_17 ?_
  rw [s2_a (show s + 1 ≠ s by omega), hX.1.2.1]
  refine v_iconst C 1 dSp_markHopeful_20 (by decide) ?_
  refine v_isub C dSp_markHopeful_21 ?_
  refine v_istore_n C 2 dSp_markHopeful_22 rfl (ble rfl) rfl ?_
  -- what holds all along
  have loop : ∀ (m : Nat) (hop : Nat → Int32) (Ic : MI) (Jc : MJ), m ≤ X.1 → Ic s 4 = 1 → (∀ k, k ≠ 4 → Ic s k = I s k) → (∀ b, b ≠ s → b ≠ s + 6 → b ≠ s + 8 → Ic b = I b) → (∀ b, b ≠ s + 6 → Jc b = J b) → (∀ i, Ic (s + 8) i = hop i) → (∃ h0, hmark (opE I u) (I u 5) ret own cnt X m hop = hmark (opE I u) (I u 5) ret own cnt X X.1 h0) → V x g 0 0 Ic Jc 23 [some (.ref s), some (.ref u), some (.int (nI m - 1)), none, none, none] [] := by
    intro m
    induction m with
    | zero =>
      intro hop Ic Jc h0 a1 a2 a3 a4 a5 a6
      refine v_iload_n C 2 dSp_markHopeful_23 rfl rfl ?_
      refine v_if_lt C 100 dSp_markHopeful_24 (by decide) (fun _ => ?_) (fun h => absurd (by decide) h)
      obtain ⟨z, hz⟩ := a6
      exact v_vret C M dSp_markHopeful_100 (ble rfl) (ble rfl) ⟨rfl, rfl, a1, a2, a3, a4, z, fun i => by rw [a5 i, ← hz]; rfl⟩
    | succ m ih =>
      intro hop Ic Jc h0 a1 a2 a3 a4 a5 a6
      have hm : m < 2000 := by omega
      have hmX : m < X.1 := by omega
      have hmc : (nI m).toNatClampNeg = m := nI_clamp (by omega)
      have hmi : vp_in (nI m) 2000 := vp_in_nI hm (by decide)
      have b5 : Ic s 5 = nI cnt := (a2 5 (by decide)).trans h5
      have b6 : Ic s 6 = ret := (a2 6 (by decide)).trans h6
      have b7 : Ic s 7 = own := (a2 7 (by decide)).trans h7
      have bK : Ic (s + 1 + 1) = I (s + 1 + 1) := a3 _ (by omega) (by omega) (by omega)
      have bW : Jc (s + 1 + 2) = J (s + 1 + 2) := a4 _ (by omega)
      have bT : TabOK Ic Jc (s + 1) X.1 := hX.1.off (fun b q1 q2 => a3 b (by omega) (by omega) (by omega)) bW
      have ek : I (s + 1 + 1) m = X.2.1 m := (hX.2 m hmX).1
      have ew : J (s + 1 + 2) m = X.2.2.1 m := (hX.2 m hmX).2.1
      obtain ⟨km9, ksz, kg⟩ := hK.2 m hmX
      rw [nI_pred]
      refine v_iload_n C 2 dSp_markHopeful_23 rfl rfl ?_
      refine v_if_lt C 100 dSp_markHopeful_24 (by decide) (fun h => absurd h (nI_pos (by omega))) (fun _ => ?_)
      refine v_aload_n C 0 dSp_markHopeful_27 rfl rfl ?_
      refine v_iload_n C 2 dSp_markHopeful_28 rfl rfl ?_
      refine v_cVi C (c_Sp_isEnd (kl x) (kD x) g Ic Jc hS hm) mwSp_isEnd cfSp (by assumption) w321 w322 w320 rfl rfl (ble rfl) (ble rfl) (ble rfl) (ble rfl) (ble rfl) dSp_markHopeful_29 ?_
      rw [b6, bK, ek]
      refine v_istore_n C 3 dSp_markHopeful_32 rfl (ble rfl) rfl ?_
      refine v_iconst C 0 dSp_markHopeful_33 (by decide) ?_
      refine v_istore C dSp_markHopeful_34 (ble rfl) rfl ?_
      -- the places
      have places : ∀ (q p : Nat) (h : Int32) (I4 : MI) (J4 : MJ), p + q = cnt → (h = 0 ∨ h = 1) → hscan (tgX (opE I u) (I u 5) ret own X m) hop q p h = hscan (tgX (opE I u) (I u 5) ret own X m) hop cnt 0 (if isE ret (X.2.1 m) then 1 else 0) → offA (s + 6) Ic Jc I4 J4 → V x g 0 0 I4 J4 36 [some (.ref s), some (.ref u), some (.int (nI m)), some (.int h), some (.int (nI p)), none] [] := by
        have fin : ∀ (h : Int32) (z4 z5 : Option Value) (I4 : MI) (J4 : MJ), (h = 0 ∨ h = 1) → h = hscan (tgX (opE I u) (I u 5) ret own X m) hop cnt 0 (if isE ret (X.2.1 m) then 1 else 0) → offA (s + 6) Ic Jc I4 J4 → V x g 0 0 I4 J4 87 [some (.ref s), some (.ref u), some (.int (nI m)), some (.int h), z4, z5] [] := by
          intro h z4 z5 I4 J4 hh he ho
          refine v_aload_n C 0 dSp_markHopeful_87 rfl rfl ?_
          refine v_getr C cfSp (k := 3) (by assumption) rfl (by assumption) w84 dSp_markHopeful_88 ?_
          refine v_iload_n C 2 dSp_markHopeful_91 rfl rfl ?_
          refine v_iload_n C 3 dSp_markHopeful_92 rfl rfl ?_
          refine v_zast C (by assumption) (by assumption) (by first | exact Or.inl rfl | exact Or.inr rfl | assumption) dSp_markHopeful_93 ?_
          rw [hmc]
          refine v_iinc C (nI m - 1) dSp_markHopeful_94 rfl (dec1 _) (ble rfl) rfl ?_
          refine v_goto C 23 dSp_markHopeful_97 (by decide) ?_
          refine V.drop (lv2 := [some (.ref s), some (.ref u), some (.int (nI m - 1)), none, none, none]) ?_ ⟨rfl, rfl, rfl, trivial⟩
          refine ih (upF hop m h) _ _ (by omega) ?_ (fun k hk => ?_) (fun b q1 q2 q3 => ?_) (fun b q1 => ?_) (fun i => ?_) ?_
          · rw [s2_a (by omega), ho.1 s (by omega)]; exact a1
          · rw [s2_a (by omega), ho.1 s (by omega)]; exact a2 k hk
          · rw [s2_off q3, ho.1 b q2]; exact a3 b q1 q2 q3
          · rw [ho.2 b q1]; exact a4 b q1
          · rw [s2_row]
            show (if _ then _ else _) = upF hop m h i
            unfold upF
            by_cases hq : i = m
            · rw [if_pos hq, if_pos hq]
            · rw [if_neg hq, if_neg hq, ho.1 (s + 8) (by omega)]
              exact a5 i
          · rw [he]
            exact a6
        intro q
        induction q with
        | zero =>
          intro p h I4 J4 h1 hh he ho
          refine v_iload C dSp_markHopeful_36 rfl ?_
          refine v_aload_n C 0 dSp_markHopeful_38 rfl rfl ?_
          refine v_geti C cfSp (k := 5) (by assumption) rfl w87 dSp_markHopeful_39 ?_
          rw [ho.1 s (by omega), b5]
          refine v_icmp_ge C 87 dSp_markHopeful_42 (by decide) (fun _ => ?_) (fun h => absurd (nI_le (by omega) (by omega)) h)
          exact fin h _ _ I4 J4 hh he ho
        | succ q ihq =>
          intro p h I4 J4 h1 hh he ho
          have hp : p < 16 := by omega
          refine v_iload C dSp_markHopeful_36 rfl ?_
          refine v_aload_n C 0 dSp_markHopeful_38 rfl rfl ?_
          refine v_geti C cfSp (k := 5) (by assumption) rfl w87 dSp_markHopeful_39 ?_
          rw [ho.1 s (by omega), b5]
          refine v_icmp_ge C 87 dSp_markHopeful_42 (by decide) (fun h => absurd h (nI_ge (by omega) (by omega))) (fun _ => ?_)
          refine v_iload_n C 3 dSp_markHopeful_45 rfl rfl ?_
          by_cases hz : h = 0
          · subst hz
            refine v_if_ne C 87 dSp_markHopeful_46 (by decide) (fun h => absurd rfl h) (fun _ => ?_)
            have e1 : I4 (s + 1 + 1) m = X.2.1 m := by rw [ho.1 _ (by omega), bK]; exact ek
            have e2 : J4 (s + 1 + 2) m = X.2.2.1 m := by rw [ho.2 _ (by omega), bW]; exact ew
            have eT : TabOK I4 J4 (s + 1) X.1 := bT.off (fun b q1 q2 => ho.1 b (by omega)) (ho.2 _ (by omega))
            have estp : stp (opE I4 u) (I4 u 5) (I4 s 6) (I4 s 7) (I4 (s + 1 + 1) m) (J4 (s + 1 + 2) m) p = stp (opE I u) (I u 5) ret own (X.2.1 m) (X.2.2.1 m) p := by
              rw [e1, e2, ho.1 s (by omega), b6, b7, ho.1 u (by omega), a3 u (by omega) (by omega) (by omega)]
              exact stp_congr hp (fun i k hi => by show I4 _ _ = I _ _; have := oo i hi; rw [ho.1 _ (by omega), a3 _ (by omega) (by omega) (by omega)])
            have elk : ∀ key w, lk (I4 (s + 1 + 1)) (J4 (s + 1 + 2)) key w X.1 = lk X.2.1 X.2.2.1 key w X.1 := fun key w => lk_congr X.1 (fun i hi => by rw [ho.1 (s + 1 + 1) (by omega), ho.2 (s + 1 + 2) (by omega), bK, bW]; exact ⟨(hX.2 i hi).1, (hX.2 i hi).2.1⟩)
            refine v_aload_n C 0 dSp_markHopeful_49 rfl rfl ?_
            refine v_aload_n C 1 dSp_markHopeful_50 rfl rfl ?_
            refine v_iload_n C 2 dSp_markHopeful_51 rfl rfl ?_
            refine v_iload C dSp_markHopeful_52 rfl ?_
            refine v_callV C (c_Sp_target (kl x) (kD x) g I4 J4 hS hU hm hp (by rw [e1]; exact kg.1.size) kg.1.2.2 eT) mwSp_target cfSp (by assumption) w607 w608 w606 rfl rfl (ble rfl) (ble rfl) (ble rfl) (ble rfl) (ble rfl) dSp_markHopeful_54 ?_
            rintro v g5 I5 J5 ⟨rfl, ho5, hc⟩
            rw [estp] at hc
            have ho6 : offA (s + 6) Ic Jc I5 J5 := ⟨fun b hb => by rw [ho5.1 b hb]; exact ho.1 b hb, fun b hb => by rw [ho5.2 b hb]; exact ho.2 b hb⟩
            have hv : ∃ z, v = some (.int z) ∧ z = tgX (opE I u) (I u 5) ret own X m p := by
              unfold tgX
              rcases hc with ⟨q1, q2⟩ | ⟨c, q1, q2, q3⟩
              · exact ⟨_, q2, by rw [q1]⟩
              · refine ⟨_, q2, ?_⟩
                rw [q1, elk, e1]
            have next : ∀ (hn : Int32) (z5 : Option Value), (hn = 0 ∨ hn = 1) → hn = (if tgX (opE I u) (I u 5) ret own X m p ≠ -1 ∧ hop (ix (tgX (opE I u) (I u 5) ret own X m p)) ≠ 0 then 1 else 0) → V x g5 0 0 I5 J5 80 [some (.ref s), some (.ref u), some (.int (nI m)), some (.int 0), some (.int (nI p)), z5] [.int hn] := by
              intro hn z5 q1 q2
              refine v_istore_n C 3 dSp_markHopeful_80 rfl (ble rfl) rfl ?_
              refine v_iinc C (nI (p + 1)) dSp_markHopeful_81 rfl (nI_1 p) (ble rfl) rfl ?_
              refine v_goto C 36 dSp_markHopeful_84 (by decide) ?_
              refine V.drop (lv2 := [some (.ref s), some (.ref u), some (.int (nI m)), some (.int hn), some (.int (nI (p + 1))), none]) ?_ ⟨rfl, rfl, rfl, rfl, rfl, trivial⟩
              refine ihq (p + 1) hn I5 J5 (by omega) q1 ?_ ho6
              rw [← he, q2]
              simp only [hscan, if_pos]
            obtain ⟨z, rfl, hz⟩ := hv
            refine v_istore C dSp_markHopeful_57 (ble rfl) rfl ?_
            refine v_iload C dSp_markHopeful_59 rfl ?_
            refine v_iconst C (-1) dSp_markHopeful_61 (by decide) ?_
            by_cases hz1 : z = -1
            · rw [hz1]
              refine v_icmp_eq C 79 dSp_markHopeful_62 (by decide) (fun _ => ?_) (fun h => absurd rfl h)
              refine v_iconst C 0 dSp_markHopeful_79 (by decide) ?_
              exact next 0 _ (Or.inl rfl) (by rw [← hz, if_neg (fun h => h.1 hz1)])
            · refine v_icmp_eq C 79 dSp_markHopeful_62 (by decide) (fun h => absurd h hz1) (fun _ => ?_)
              have hzi : ∃ i, i < X.1 ∧ z = nI i := by
                rw [hz]
                unfold tgX
                rw [hz] at hz1
                unfold tgX at hz1
                split
                · rename_i h9
                  rw [h9] at hz1
                  exact absurd rfl hz1
                · rename_i c h9
                  rw [h9] at hz1
                  rcases lk_spec X.2.1 X.2.2.1 (keyB (X.2.1 m) p c.2.1) c.1 X.1 with ⟨n1, n2⟩ | ⟨i, n1, n2, n3⟩
                  · exact absurd n1 hz1
                  · exact ⟨i, n1, n2⟩
              obtain ⟨i, hi, hzn⟩ := hzi
              have hii : vp_in z 2000 := by rw [hzn]; exact vp_in_nI (by omega) (by decide)
              refine v_aload_n C 0 dSp_markHopeful_65 rfl rfl ?_
              refine v_getr C cfSp (k := 3) (by assumption) rfl (by assumption) w84 dSp_markHopeful_66 ?_
              refine v_iload C dSp_markHopeful_69 rfl ?_
              refine v_zald C (by assumption) (by assumption) dSp_markHopeful_71 ?_
              have e8 : I5 (s + 8) z.toNatClampNeg = hop (ix z) := by rw [ho6.1 (s + 8) (by omega)]; exact a5 _
              rw [e8]
              by_cases hh0 : hop (ix z) = 0
              · rw [hh0]
                refine v_if_eq C 79 dSp_markHopeful_72 (by decide) (fun _ => ?_) (fun h => absurd rfl h)
                refine v_iconst C 0 dSp_markHopeful_79 (by decide) ?_
                exact next 0 _ (Or.inl rfl) (by rw [← hz, if_neg (fun h => h.2 hh0)])
              · refine v_if_eq C 79 dSp_markHopeful_72 (by decide) (fun h => absurd h hh0) (fun _ => ?_)
                refine v_iconst C 1 dSp_markHopeful_75 (by decide) ?_
                refine v_goto C 80 dSp_markHopeful_76 (by decide) ?_
                exact next 1 _ (Or.inr rfl) (by rw [← hz, if_pos ⟨hz1, hh0⟩])
          · refine v_if_ne C 87 dSp_markHopeful_46 (by decide) (fun _ => ?_) (fun h => absurd h hz)
            refine fin h _ _ I4 J4 hh ?_ ho
            rw [← he]
            simp only [hscan, if_neg hz]
      exact places cnt 0 _ Ic Jc (by omega) (by split <;> simp) rfl ⟨fun _ _ => rfl, fun _ _ => rfl⟩
  exact loop X.1 (I (s + 8)) _ _ (Nat.le_refl _) (s2_self _ _ _ _) (fun k hk => s2_k hk) (fun b q1 _ _ => s2_off q1) (fun _ _ => rfl) (fun i => by rw [s2_off (by omega)]) ⟨_, rfl⟩
