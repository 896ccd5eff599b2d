def keepR (I : MI) (J : MJ) (t n : Nat) (key : Int32) (w : Int64) (I2 : MI) (J2 : MJ) : Prop := TabOK I2 J2 t (n + 1) ∧ I2 (t + 1) n = key ∧ J2 (t + 2) n = w ∧ (∀ j, j ≠ n → I2 (t + 1) j = I (t + 1) j) ∧ (∀ j, j ≠ n → J2 (t + 2) j = J (t + 2) j) ∧ (∀ b, b < t ∨ t + 5 ≤ b → I2 b = I b) ∧ ∀ b, b < t ∨ t + 5 ≤ b → J2 b = J b
def keepQ (g : GM) (I : MI) (J : MJ) (t n : Nat) (key : Int32) (w : Int64) : Option Value → GM → MI → MJ → Prop := fun v g2 I2 J2 => g2 = g ∧ ((lk (I (t + 1)) (J (t + 2)) key w n ≠ -1 ∨ n = 2000) ∧ v = some (.int (lk (I (t + 1)) (J (t + 2)) key w n)) ∧ I2 = I ∧ J2 = J ∨ lk (I (t + 1)) (J (t + 2)) key w n = -1 ∧ n < 2000 ∧ v = some (.int (nI n)) ∧ keepR I J t n key w I2 J2)
theorem keep_ok {I : MI} {J : MJ} {t n c : Nat} {key : Int32} {w : Int64} (hok : TabOK I J t n) (hn : n < 2000) (hc : hsh key w = nI c) (hc1 : c < 1024) : keepR I J t n key w (s2 (s2 (s2 (s2 I (t + 1) n key) (t + 4) n (I (t + 3) c)) (t + 3) c (nI n)) t 4 (nI (n + 1))) (s2 J (t + 2) n w) := by
  obtain ⟨h1, h2, h3, h4⟩ := hok
  have eK : ∀ j, (s2 (s2 (s2 (s2 I (t + 1) n key) (t + 4) n (I (t + 3) c)) (t + 3) c (nI n)) t 4 (nI (n + 1))) (t + 1) j = if j = n then key else I (t + 1) j := fun j => by
    rw [s2_a (by omega), s2_a (by omega), s2_a (by omega), s2_row]
  have eW : ∀ j, (s2 J (t + 2) n w) (t + 2) j = if j = n then w else J (t + 2) j := fun j => by rw [s2_row]
  have eC : ∀ j, (s2 (s2 (s2 (s2 I (t + 1) n key) (t + 4) n (I (t + 3) c)) (t + 3) c (nI n)) t 4 (nI (n + 1))) (t + 3) j = if j = c then nI n else I (t + 3) j := fun j => by
    rw [s2_a (by omega), s2_row]
    show (if _ then _ else _) = _
    by_cases hj : j = c
    · rw [if_pos hj, if_pos hj]
    · rw [if_neg hj, if_neg hj, s2_a (by omega), s2_a (by omega)]
  have eL : ∀ j, (s2 (s2 (s2 (s2 I (t + 1) n key) (t + 4) n (I (t + 3) c)) (t + 3) c (nI n)) t 4 (nI (n + 1))) (t + 4) j = if j = n then I (t + 3) c else I (t + 4) j := fun j => by
    rw [s2_a (by omega), s2_a (by omega), s2_row]
    show (if _ then _ else _) = _
    by_cases hj : j = n
    · rw [if_pos hj, if_pos hj]
    · rw [if_neg hj, if_neg hj, s2_a (by omega)]
  have eH : ∀ i, i < n → hs9 (s2 (s2 (s2 (s2 I (t + 1) n key) (t + 4) n (I (t + 3) c)) (t + 3) c (nI n)) t 4 (nI (n + 1))) (s2 J (t + 2) n w) t i = hs9 I J t i := fun i hi => by
    unfold hs9
    rw [eK, eW, if_neg (by omega), if_neg (by omega)]
  have eN : hs9 (s2 (s2 (s2 (s2 I (t + 1) n key) (t + 4) n (I (t + 3) c)) (t + 3) c (nI n)) t 4 (nI (n + 1))) (s2 J (t + 2) n w) t n = nI c := by
    unfold hs9
    rw [eK, eW, if_pos rfl, if_pos rfl, hc]
  refine ⟨⟨by omega, s2_self _ _ _ _, fun q hq => ?_, fun i hi => ?_⟩, by rw [eK, if_pos rfl], by rw [eW, if_pos rfl], fun j hj => by rw [eK, if_neg hj], fun j hj => by rw [eW, if_neg hj], fun b hb => ?_, fun b hb => ?_⟩
  · rw [eC]
    simp only [lastI]
    rw [eN, lastI_congr n eH]
    by_cases hqc : q = c
    · rw [if_pos hqc, if_pos (by rw [hqc])]
    · rw [if_neg hqc, if_neg (fun h => hqc ((nI_eq (by omega) (by omega)).mp h).symm)]
      exact h3 q hq
  · rw [eL]
    rcases Nat.lt_succ_iff_lt_or_eq.mp hi with hi | hi
    · rw [if_neg (by omega), eH i hi, lastI_congr i (fun k hk => eH k (by omega))]
      exact h4 i hi
    · rw [if_pos hi, hi, eN, lastI_congr n eH]
      exact h3 c hc1
  · rw [s2_off (by omega), s2_off (by omega), s2_off (by omega), s2_off (by omega)]
  · rw [s2_off (by omega)]
theorem c_Ta_keep (l : Launch) (D : va_G) (g : GM) (I : MI) (J : MJ) {t n : Nat} (key : Int32) (w : Int64) (hT : TaAt g t) (hok : TabOK I J t n) : Ct l yTa_keep bTa_keep 6 (some .int) (rmN 1 26) D [.ref t, .int key, .long w] g I J (keepQ g I J t n key w) := by
  refine Ct.of (by decide) (ble rfl) [some (.ref t), some (.int key), some (.long w), none, none, none] rfl ?_
  intro x C M
  obtain ⟨t0, t1, t2, t3, t4, r0, r1, r2, r3⟩ := id hT
  obtain ⟨hn, hc, hch, hli⟩ := id hok
  obtain ⟨c, hc1, hc2⟩ := hsh_in key w
  have hin : vp_in (hsh key w) 1024 := by rw [hc2]; exact vp_in_nI hc1 (by decide)
  have hcc : (hsh key w).toNatClampNeg = c := by rw [hc2, nI_clamp (by omega)]
  refine v_aload_n C 0 dTa_keep_0 rfl rfl ?_
  refine v_iload_n C 1 dTa_keep_1 rfl rfl ?_
  refine v_lload_n C 2 dTa_keep_2 rfl rfl ?_
  refine v_cVi C (c_Ta_chainOf (kl x) (kD x) g I J key w) mwTa_chainOf cfTa (by assumption) w260 ws2 w258 rfl rfl (ble rfl) (ble rfl) (ble rfl) (ble rfl) (ble rfl) dTa_keep_3 ?_
  refine v_istore C dTa_keep_6 (ble rfl) rfl ?_
  refine v_aload_n C 0 dTa_keep_8 rfl rfl ?_
  refine v_iload C dTa_keep_9 rfl ?_
  refine v_iload_n C 1 dTa_keep_11 rfl rfl ?_
  refine v_lload_n C 2 dTa_keep_12 rfl rfl ?_
  refine v_cVi C (c_Ta_findIn (kl x) (kD x) g I J key w hT hok) mwTa_findIn cfTa (by assumption) w266 ws3 w264 rfl rfl (ble rfl) (ble rfl) (ble rfl) (ble rfl) (ble rfl) dTa_keep_13 ?_
  refine v_istore C dTa_keep_16 (ble rfl) rfl ?_
  refine v_iload C dTa_keep_18 rfl ?_
  refine v_iconst C (-1) dTa_keep_20 (by decide) ?_
  have out : lk (I (t + 1)) (J (t + 2)) key w n ≠ -1 ∨ n = 2000 → V x g 0 0 I J 34 [some (.ref t), some (.int key), some (.long w), none, some (.int (hsh key w)), some (.int (lk (I (t + 1)) (J (t + 2)) key w n))] [] := by
    intro h
    refine v_iload C dTa_keep_34 rfl ?_
    exact v_iret C M dTa_keep_36 (ble rfl) (ble rfl) ⟨rfl, Or.inl ⟨h, rfl, rfl, rfl⟩⟩
  refine v_icmp_ne C 34 dTa_keep_21 (by decide) (fun c21 => ?_) (fun c21 => ?_)
  · exact out (Or.inl c21)
  · have c21 : lk (I (t + 1)) (J (t + 2)) key w n = -1 := by simpa using c21
    refine v_aload_n C 0 dTa_keep_24 rfl rfl ?_
    refine v_geti C cfTa (k := 4) (by assumption) rfl w43 dTa_keep_25 ?_
    rw [hc]
    refine v_sipush C 2000 dTa_keep_28 (by decide) ?_
    refine v_icmp_lt C 37 dTa_keep_31 (by decide) (fun c31 => ?_) (fun c31 => ?_)
    · have hlt : n < 2000 := by
        have h : nI n < nI 2000 := c31
        exact (nI_ltI (by omega) (by decide)).mp h
      have hcl : (nI n).toNatClampNeg = n := nI_clamp (by omega)
      have hi2 : vp_in (nI n) 2000 := vp_in_nI hlt (by decide)
      refine v_aload_n C 0 dTa_keep_37 rfl rfl ?_
      refine v_getr C cfTa (k := 0) (by assumption) rfl (by assumption) w37 dTa_keep_38 ?_
      refine v_aload_n C 0 dTa_keep_41 rfl rfl ?_
      refine v_geti C cfTa (k := 4) (by assumption) rfl w43 dTa_keep_42 ?_
      rw [hc]
      refine v_iload_n C 1 dTa_keep_45 rfl rfl ?_
      refine v_iast C (by assumption) (by assumption) dTa_keep_46 ?_
      rw [hcl]
      refine v_aload_n C 0 dTa_keep_47 rfl rfl ?_
      refine v_getr C cfTa (k := 1) (by assumption) rfl (by assumption) w39 dTa_keep_48 ?_
      refine v_aload_n C 0 dTa_keep_51 rfl rfl ?_
      refine v_geti C cfTa (k := 4) (by assumption) rfl w43 dTa_keep_52 ?_
      rw [s2_a (show t ≠ t + 1 by omega), hc]
      refine v_lload_n C 2 dTa_keep_55 rfl rfl ?_
      refine v_last C (by assumption) (by assumption) dTa_keep_56 ?_
      rw [hcl]
      refine v_aload_n C 0 dTa_keep_57 rfl rfl ?_
      refine v_getr C cfTa (k := 3) (by assumption) rfl (by assumption) w42 dTa_keep_58 ?_
      refine v_aload_n C 0 dTa_keep_61 rfl rfl ?_
      refine v_geti C cfTa (k := 4) (by assumption) rfl w43 dTa_keep_62 ?_
      rw [s2_a (show t ≠ t + 1 by omega), hc]
      refine v_aload_n C 0 dTa_keep_65 rfl rfl ?_
      refine v_getr C cfTa (k := 2) (by assumption) rfl (by assumption) w41 dTa_keep_66 ?_
      refine v_iload C dTa_keep_69 rfl ?_
      refine v_iald C (by assumption) (by assumption) dTa_keep_71 ?_
      rw [s2_a (show t + 3 ≠ t + 1 by omega), hcc]
      refine v_iast C (by assumption) (by assumption) dTa_keep_72 ?_
      rw [hcl]
      refine v_aload_n C 0 dTa_keep_73 rfl rfl ?_
      refine v_getr C cfTa (k := 2) (by assumption) rfl (by assumption) w41 dTa_keep_74 ?_
      refine v_iload C dTa_keep_77 rfl ?_
      refine v_aload_n C 0 dTa_keep_79 rfl rfl ?_
      refine v_geti C cfTa (k := 4) (by assumption) rfl w43 dTa_keep_80 ?_
      rw [s2_a (show t ≠ t + 4 by omega), s2_a (show t ≠ t + 1 by omega), hc]
      refine v_iast C (by assumption) (by assumption) dTa_keep_83 ?_
      rw [hcc]
      refine v_aload_n C 0 dTa_keep_84 rfl rfl ?_
      refine v_dup C dTa_keep_85 rfl ?_
      refine v_geti C cfTa (k := 4) (by assumption) rfl w43 dTa_keep_86 ?_
      rw [s2_a (show t ≠ t + 3 by omega), s2_a (show t ≠ t + 4 by omega), s2_a (show t ≠ t + 1 by omega), hc]
      refine v_iconst C 1 dTa_keep_89 (by decide) ?_
      refine v_iadd C dTa_keep_90 ?_
      refine v_puti C cfTa (k := 4) (by assumption) rfl w43 rfl rfl rfl dTa_keep_91 ?_
      refine v_aload_n C 0 dTa_keep_94 rfl rfl ?_
      refine v_geti C cfTa (k := 4) (by assumption) rfl w43 dTa_keep_95 ?_
      rw [s2_self, nI_1]
      refine v_iconst C 1 dTa_keep_98 (by decide) ?_
      refine v_isub C dTa_keep_99 ?_
      rw [nI_pred]
      exact v_iret C M dTa_keep_100 (ble rfl) (ble rfl) ⟨rfl, Or.inr ⟨c21, hlt, rfl, keep_ok hok hlt hc2 hc1⟩⟩
    · have hge : n = 2000 := by
        have h : ¬ nI n < nI 2000 := c31
        rw [nI_ltI (by omega) (by decide)] at h
        omega
      exact out (Or.inr hge)
theorem c_Ar_fill (l : Launch) (D : va_G) (g : GM) (I : MI) (J : MJ) {a n : Nat} (v : Int32) (ha : g.1 a = (10, n)) (hn : n < 2 ^ 31) : Ct l yAr_fill bAr_fill 4 none (rmN 0 0) D [.ref a, .int v] g I J (fun rv g2 I2 J2 => rv = none ∧ g2 = g ∧ J2 = J ∧ (∀ b, b ≠ a → I2 b = I b) ∧ ∀ j, j < n → I2 a j = v) := by
  refine Ct.of (by decide) (ble rfl) [some (.ref a), some (.int v), none, none] rfl ?_
  intro x C M
  refine v_iconst C 0 dAr_fill_0 (by decide) ?_
  refine v_istore_n C 2 dAr_fill_1 rfl (ble rfl) rfl ?_
  refine v_aload_n C 0 dAr_fill_2 rfl rfl ?_
  refine v_ialen C (nI n) ha rfl dAr_fill_3 ?_
  refine v_istore_n C 3 dAr_fill_4 rfl (ble rfl) rfl ?_
  have loop : ∀ (m i : Nat) (I2 : MI), i + m = n → (∀ b, b ≠ a → I2 b = I b) → (∀ j, j < i → I2 a j = v) → V x g 0 0 I2 J 5 [some (.ref a), some (.int v), some (.int (nI i)), some (.int (nI n))] [] := by
    intro m
    induction m with
    | zero =>
      intro i I2 h1 h2 h3
      refine v_iload_n C 2 dAr_fill_5 rfl rfl ?_
      refine v_iload_n C 3 dAr_fill_6 rfl rfl ?_
      refine v_icmp_ge C 20 dAr_fill_7 (by decide) (fun _ => ?_) (fun h => absurd (nI_le (by omega) (by omega)) h)
      exact v_vret C M dAr_fill_20 (ble rfl) (ble rfl) ⟨rfl, rfl, rfl, h2, fun j hj => h3 j (by omega)⟩
    | succ m ih =>
      intro i I2 h1 h2 h3
      refine v_iload_n C 2 dAr_fill_5 rfl rfl ?_
      refine v_iload_n C 3 dAr_fill_6 rfl rfl ?_
      refine v_icmp_ge C 20 dAr_fill_7 (by decide) (fun h => absurd h (nI_ge (by omega) hn)) (fun _ => ?_)
      have hi : vp_in (nI i) n := vp_in_nI (by omega) hn
      refine v_aload_n C 0 dAr_fill_10 rfl rfl ?_
      refine v_iload_n C 2 dAr_fill_11 rfl rfl ?_
      refine v_iload_n C 1 dAr_fill_12 rfl rfl ?_
      refine v_iast C (by assumption) (by assumption) dAr_fill_13 ?_
      refine v_iinc C (nI (i + 1)) dAr_fill_14 rfl (nI_1 i) (ble rfl) rfl ?_
      refine v_goto C 5 dAr_fill_17 (by decide) ?_
      rw [nI_clamp (by omega)]
      refine ih (i + 1) _ (by omega) (fun b hb => by rw [s2_off hb]; exact h2 b hb) (fun j hj => ?_)
      rcases Nat.lt_succ_iff_lt_or_eq.mp hj with h | h
      · rw [s2_k (by omega)]
        exact h3 j h
      · rw [h, s2_self]
  exact loop n 0 I (by omega) (fun _ _ => rfl) (fun j hj => absurd hj (Nat.not_lt_zero j))
theorem c_Ta_makeEmpty (l : Launch) (D : va_G) (g : GM) (I : MI) (J : MJ) {t : Nat} (hT : TaAt g t) : Ct l yTa_makeEmpty bTa_makeEmpty 1 none (rmN 1 23) D [.ref t] g I J (fun rv g2 I2 J2 => rv = none ∧ g2 = g ∧ J2 = J ∧ TabOK I2 J2 t 0 ∧ ∀ b, b < t ∨ t + 5 ≤ b → I2 b = I b) := by
  refine Ct.of (by decide) (ble rfl) [some (.ref t)] rfl ?_
  intro x C M
  obtain ⟨t0, t1, t2, t3, t4, r0, r1, r2, r3⟩ := id hT
  refine v_aload_n C 0 dTa_makeEmpty_0 rfl rfl ?_
  refine v_iconst C 0 dTa_makeEmpty_1 (by decide) ?_
  refine v_puti C cfTa (k := 4) (by assumption) rfl w43 rfl rfl rfl dTa_makeEmpty_2 ?_
  refine v_aload_n C 0 dTa_makeEmpty_5 rfl rfl ?_
  refine v_getr C cfTa (k := 2) (by assumption) rfl (by assumption) w41 dTa_makeEmpty_6 ?_
  refine v_iconst C (-1) dTa_makeEmpty_9 (by decide) ?_
  refine v_callS C (c_Ar_fill (kl x) (kD x) g (s2 I t 4 0) J (-1) t3 (by decide)) mwAr_fill w109 w253 rfl rfl (ble rfl) (ble rfl) (ble rfl) (ble rfl) (ble rfl) dTa_makeEmpty_10 ?_
  rintro v g2 I2 J2 ⟨rfl, rfl, rfl, h1, h2⟩
  refine v_vret C M dTa_makeEmpty_13 (ble rfl) (ble rfl) ⟨rfl, rfl, rfl, ⟨Nat.zero_le _, ?_, fun c hc => h2 c hc, fun i hi => absurd hi (Nat.not_lt_zero i)⟩, fun b hb => ?_⟩
  · rw [h1 t (by omega), s2_self]
    rfl
  · rw [h1 b (by omega), s2_off (by omega)]
