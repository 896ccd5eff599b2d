/-! Table: t the object, t+1 keys, t+2 words, t+3 chains, t+4 links -/
def TaAt (g : GM) (t : Nat) : Prop := g.1 t = (4, 0) ∧ g.1 (t + 1) = (10, 2000) ∧ g.1 (t + 2) = (11, 2000) ∧ g.1 (t + 3) = (10, 1024) ∧ g.1 (t + 4) = (10, 2000) ∧ g.2.1 t 0 = some (t + 1) ∧ g.2.1 t 1 = some (t + 2) ∧ g.2.1 t 2 = some (t + 3) ∧ g.2.1 t 3 = some (t + 4)
def hsh (key : Int32) (w : Int64) : Int32 := (jushr (w * (-7046029254386353131) + key.toInt64 * (-4417276706812531889)) 54).toInt32
theorem hsh_in (key : Int32) (w : Int64) : ∃ c, c < 1024 ∧ hsh key w = nI c := by
  obtain ⟨n, hn, e⟩ := wb_of (w * (-7046029254386353131) + key.toInt64 * (-4417276706812531889))
  refine ⟨n / 2 ^ 54, by omega, ?_⟩
  unfold hsh
  rw [e]
  have h : jushr (lN n) 54 = lN (n / 2 ^ 54) := wb_shr (k := 54) hn (by decide)
  rw [h, lN_i]
def lastI (h : Nat → Int32) (c : Int32) : Nat → Int32
  | 0 => -1
  | m + 1 => if h m = c then nI m else lastI h c m
theorem lastI_spec (h : Nat → Int32) (c : Int32) : ∀ m : Nat, (lastI h c m = -1 ∧ ∀ i, i < m → h i ≠ c) ∨ ∃ i, i < m ∧ lastI h c m = nI i ∧ h i = c ∧ ∀ k, i < k → k < m → h k ≠ c
  | 0 => Or.inl ⟨rfl, fun i hi => absurd hi (Nat.not_lt_zero i)⟩
  | m + 1 => by
    by_cases e : h m = c
    · right
      exact ⟨m, Nat.lt_succ_self m, by simp [lastI, e], e, fun k h1 h2 => by omega⟩
    · have e2 : lastI h c (m + 1) = lastI h c m := by simp [lastI, e]
      rcases lastI_spec h c m with ⟨h1, h2⟩ | ⟨i, h1, h2, h3, h4⟩
      · left
        refine ⟨e2.trans h1, fun i hi => ?_⟩
        rcases Nat.lt_succ_iff_lt_or_eq.mp hi with hi | hi
        · exact h2 i hi
        · rw [hi]; exact e
      · right
        refine ⟨i, by omega, e2.trans h2, h3, fun k k1 k2 => ?_⟩
        rcases Nat.lt_succ_iff_lt_or_eq.mp k2 with hi | hi
        · exact h4 k k1 hi
        · rw [hi]; exact e
theorem lastI_congr {h h2 : Nat → Int32} {c : Int32} : ∀ m : Nat, (∀ i, i < m → h2 i = h i) → lastI h2 c m = lastI h c m
  | 0, _ => rfl
  | m + 1, e => by
    simp only [lastI]
    rw [e m (Nat.lt_succ_self m), lastI_congr m (fun i hi => e i (Nat.lt_succ_of_lt hi))]
/-- the last place below n with this key and this word, else -1 -/
def lk (K : Nat → Int32) (W9 : Nat → Int64) (key : Int32) (w : Int64) : Nat → Int32
  | 0 => -1
  | m + 1 => if K m = key ∧ W9 m = w then nI m else lk K W9 key w m
theorem lk_spec (K : Nat → Int32) (W9 : Nat → Int64) (key : Int32) (w : Int64) : ∀ m : Nat, (lk K W9 key w m = -1 ∧ ∀ i, i < m → ¬ (K i = key ∧ W9 i = w)) ∨ ∃ i, i < m ∧ lk K W9 key w m = nI i ∧ K i = key ∧ W9 i = w
  | 0 => Or.inl ⟨rfl, fun i hi => absurd hi (Nat.not_lt_zero i)⟩
  | m + 1 => by
    by_cases e : K m = key ∧ W9 m = w
    · right
      exact ⟨m, Nat.lt_succ_self m, by simp [lk, e], e.1, e.2⟩
    · have e2 : lk K W9 key w (m + 1) = lk K W9 key w m := by
        show (if _ then _ else _) = _
        rw [if_neg e]
      rcases lk_spec K W9 key w m with ⟨h1, h2⟩ | ⟨i, h1, h2, h3⟩
      · left
        refine ⟨e2.trans h1, fun i hi => ?_⟩
        rcases Nat.lt_succ_iff_lt_or_eq.mp hi with hi | hi
        · exact h2 i hi
        · rw [hi]; exact e
      · right
        exact ⟨i, by omega, e2.trans h2, h3⟩
theorem lk_skip {K : Nat → Int32} {W9 : Nat → Int64} {key : Int32} {w : Int64} {i : Nat} : ∀ m : Nat, i ≤ m → (∀ k, i ≤ k → k < m → ¬ (K k = key ∧ W9 k = w)) → lk K W9 key w m = lk K W9 key w i
  | 0, h, _ => by
    have : i = 0 := by omega
    rw [this]
  | m + 1, h, hn => by
    rcases Nat.lt_or_ge m i with h1 | h1
    · have : i = m + 1 := by omega
      rw [this]
    · have e2 : lk K W9 key w (m + 1) = lk K W9 key w m := by
        show (if _ then _ else _) = _
        rw [if_neg (hn m h1 (Nat.lt_succ_self m))]
      rw [e2]
      exact lk_skip m h1 (fun k k1 k2 => hn k k1 (Nat.lt_succ_of_lt k2))
theorem lk_congr {K K2 : Nat → Int32} {W9 W2 : Nat → Int64} {key : Int32} {w : Int64} : ∀ m : Nat, (∀ i, i < m → K2 i = K i ∧ W2 i = W9 i) → lk K2 W2 key w m = lk K W9 key w m
  | 0, _ => rfl
  | m + 1, e => by
    simp only [lk]
    rw [(e m (Nat.lt_succ_self m)).1, (e m (Nat.lt_succ_self m)).2, lk_congr m (fun i hi => e i (Nat.lt_succ_of_lt hi))]
def hs9 (I : MI) (J : MJ) (t : Nat) (i : Nat) : Int32 := hsh (I (t + 1) i) (J (t + 2) i)
def TabOK (I : MI) (J : MJ) (t n : Nat) : Prop := n ≤ 2000 ∧ I t 4 = nI n ∧ (∀ c, c < 1024 → I (t + 3) c = lastI (hs9 I J t) (nI c) n) ∧ ∀ i, i < n → I (t + 4) i = lastI (hs9 I J t) (hs9 I J t i) i
theorem nI_lt0 {n : Nat} (h : n < 2 ^ 31) : ¬ nI n < 0 := nI_pos h
theorem c_Ta_chainOf (l : Launch) (D : va_G) (g : GM) (I : MI) (J : MJ) {t : Nat} (key : Int32) (w : Int64) : Ct l yTa_chainOf bTa_chainOf 4 (some .int) (rmN 0 0) D [.ref t, .int key, .long w] g I J (PF (some (.int (hsh key w))) g I J) := by
  refine Ct.of (by decide) (ble rfl) [some (.ref t), some (.int key), some (.long w), none] rfl ?_
  intro x C M
  refine v_lload_n C 2 dTa_chainOf_0 rfl rfl ?_
  refine v_ldc2 C w262 dTa_chainOf_1 ?_
  refine v_lmul C dTa_chainOf_4 ?_
  refine v_iload_n C 1 dTa_chainOf_5 rfl rfl ?_
  refine v_i2l C dTa_chainOf_6 ?_
  refine v_ldc2 C w263 dTa_chainOf_7 ?_
  refine v_lmul C dTa_chainOf_10 ?_
  refine v_ladd C dTa_chainOf_11 ?_
  refine v_bipush C 54 dTa_chainOf_12 (by decide) ?_
  refine v_lushr C dTa_chainOf_14 ?_
  refine v_l2i C dTa_chainOf_15 ?_
  exact v_iret C M dTa_chainOf_16 (ble rfl) (ble rfl) (pf_i rfl rfl rfl)
theorem c_Ta_findIn (l : Launch) (D : va_G) (g : GM) (I : MI) (J : MJ) {t n : Nat} (key : Int32) (w : Int64) (hT : TaAt g t) (hok : TabOK I J t n) : Ct l yTa_findIn bTa_findIn 7 (some .int) (rmN 0 0) D [.ref t, .int (hsh key w), .int key, .long w] g I J (PF (some (.int (lk (I (t + 1)) (J (t + 2)) key w n))) g I J) := by
  refine Ct.of (by decide) (ble rfl) [some (.ref t), some (.int (hsh key w)), some (.int key), some (.long w), none, none, none] rfl ?_
  intro x C M
  obtain ⟨t0, t1, t2, t3, t4, r0, r1, r2, r3⟩ := hT
  obtain ⟨hn, hc, hch, hli⟩ := hok
  obtain ⟨c, hc1, hc2⟩ := hsh_in key w
  refine v_aload_n C 0 dTa_findIn_0 rfl rfl ?_
  refine v_getr C cfTa (k := 2) (by assumption) rfl (by assumption) w41 dTa_findIn_1 ?_
  refine v_iload_n C 1 dTa_findIn_4 rfl rfl ?_
  have hin : vp_in (hsh key w) 1024 := by rw [hc2]; exact vp_in_nI hc1 (by decide)
  refine v_iald C (by assumption) (by assumption) dTa_findIn_5 ?_
  have e0 : I (t + 3) (hsh key w).toNatClampNeg = lastI (hs9 I J t) (hsh key w) n := by
    rw [hc2, nI_clamp (by omega)]
    exact hch c hc1
  rw [e0]
  refine v_istore C dTa_findIn_6 (ble rfl) rfl ?_
  refine v_aload_n C 0 dTa_findIn_8 rfl rfl ?_
  refine v_geti C cfTa (k := 4) (by assumption) rfl w43 dTa_findIn_9 ?_
  rw [hc]
  refine v_istore C dTa_findIn_12 (ble rfl) rfl ?_
  have loop : ∀ (q m : Nat), m ≤ q → q ≤ n → m ≤ n → lk (I (t + 1)) (J (t + 2)) key w m = lk (I (t + 1)) (J (t + 2)) key w n → V x g 0 0 I J 14 [some (.ref t), some (.int (hsh key w)), some (.int key), some (.long w), none, some (.int (lastI (hs9 I J t) (hsh key w) m)), some (.int (nI q))] [] := by
    intro q
    induction q with
    | zero =>
      intro m h1 h2 h3 he
      have hm : m = 0 := by omega
      subst hm
      refine v_iload C dTa_findIn_14 rfl ?_
      refine v_if_le C 65 dTa_findIn_16 (by decide) (fun _ => ?_) (fun h => absurd (by rw [nI_0]; decide) h)
      refine v_iconst C (-1) dTa_findIn_65 (by decide) ?_
      exact v_iret C M dTa_findIn_66 (ble rfl) (ble rfl) (pf_i (by rw [← he]; rfl) rfl rfl)
    | succ q ih =>
      intro m h1 h2 h3 he
      refine v_iload C dTa_findIn_14 rfl ?_
      refine v_if_le C 65 dTa_findIn_16 (by decide) (fun h => absurd h (nI_nle (Nat.succ_pos q) (by omega))) (fun _ => ?_)
      refine v_iload C dTa_findIn_19 rfl ?_
      rcases lastI_spec (hs9 I J t) (hsh key w) m with ⟨e1, e2⟩ | ⟨i, i1, i2, i3, i4⟩
      · rw [e1]
        refine v_if_lt C 65 dTa_findIn_21 (by decide) (fun _ => ?_) (fun h => absurd (by decide) h)
        refine v_iconst C (-1) dTa_findIn_65 (by decide) ?_
        refine v_iret C M dTa_findIn_66 (ble rfl) (ble rfl) (pf_i ?_ rfl rfl)
        rw [← he, lk_skip (i := 0) m (Nat.zero_le _) (fun k _ k2 hk => e2 k k2 (by unfold hs9; rw [hk.1, hk.2]))]
        rfl
      · rw [i2]
        refine v_if_lt C 65 dTa_findIn_21 (by decide) (fun h => absurd h (nI_lt0 (by omega))) (fun _ => ?_)
        have hi2 : vp_in (nI i) 2000 := vp_in_nI (by omega) (by decide)
        have hcl : (nI i).toNatClampNeg = i := nI_clamp (by omega)
        have hsk : lk (I (t + 1)) (J (t + 2)) key w m = lk (I (t + 1)) (J (t + 2)) key w (i + 1) := lk_skip m i1 (fun k k1 k2 hk => i4 k k1 k2 (by unfold hs9; rw [hk.1, hk.2]))
        have next : ¬ (I (t + 1) i = key ∧ J (t + 2) i = w) → V x g 0 0 I J 50 [some (.ref t), some (.int (hsh key w)), some (.int key), some (.long w), none, some (.int (nI i)), some (.int (nI (q + 1)))] [] := by
          intro hno
          refine v_aload_n C 0 dTa_findIn_50 rfl rfl ?_
          refine v_getr C cfTa (k := 3) (by assumption) rfl (by assumption) w42 dTa_findIn_51 ?_
          refine v_iload C dTa_findIn_54 rfl ?_
          refine v_iald C (by assumption) (by assumption) dTa_findIn_56 ?_
          rw [hcl, hli i (by omega), i3]
          refine v_istore C dTa_findIn_57 (ble rfl) rfl ?_
          refine v_iinc C (nI q) dTa_findIn_59 rfl (pk_m1 q) (ble rfl) rfl ?_
          refine v_goto C 14 dTa_findIn_62 (by decide) ?_
          refine ih i (by omega) (by omega) (by omega) ?_
          rw [← he, hsk]
          show _ = (if _ then _ else _)
          rw [if_neg hno]
        refine v_aload_n C 0 dTa_findIn_24 rfl rfl ?_
        refine v_getr C cfTa (k := 0) (by assumption) rfl (by assumption) w37 dTa_findIn_25 ?_
        refine v_iload C dTa_findIn_28 rfl ?_
        refine v_iald C (by assumption) (by assumption) dTa_findIn_30 ?_
        rw [hcl]
        refine v_iload_n C 2 dTa_findIn_31 rfl rfl ?_
        refine v_icmp_ne C 50 dTa_findIn_32 (by decide) (fun c32 => ?_) (fun c32 => ?_)
        · exact next (fun h => c32 h.1)
        · have c32 : I (t + 1) i = key := by simpa using c32
          refine v_aload_n C 0 dTa_findIn_35 rfl rfl ?_
          refine v_getr C cfTa (k := 1) (by assumption) rfl (by assumption) w39 dTa_findIn_36 ?_
          refine v_iload C dTa_findIn_39 rfl ?_
          refine v_lald C (by assumption) (by assumption) dTa_findIn_41 ?_
          rw [hcl]
          refine v_lload_n C 3 dTa_findIn_42 rfl rfl ?_
          refine v_lcmp C dTa_findIn_43 ?_
          refine v_if_ne C 50 dTa_findIn_44 (by decide) (fun c44 => ?_) (fun c44 => ?_)
          · exact next (fun h => c44 (by rw [h.2]; exact lcmpE.mpr rfl))
          · have c44 : J (t + 2) i = w := lcmpE.mp (by simpa using c44)
            refine v_iload C dTa_findIn_47 rfl ?_
            refine v_iret C M dTa_findIn_49 (ble rfl) (ble rfl) (pf_i ?_ rfl rfl)
            rw [← he, hsk]
            show _ = (if _ then _ else _)
            rw [if_pos ⟨c32, c44⟩]
  exact loop n n (Nat.le_refl _) (Nat.le_refl _) (Nat.le_refl _) rfl
theorem c_Ta_find (l : Launch) (D : va_G) (g : GM) (I : MI) (J : MJ) {t n : Nat} (key : Int32) (w : Int64) (hT : TaAt g t) (hok : TabOK I J t n) : Ct l yTa_find bTa_find 4 (some .int) (rmN 1 26) D [.ref t, .int key, .long w] g I J (PF (some (.int (lk (I (t + 1)) (J (t + 2)) key w n))) g I J) := by
  refine Ct.of (by decide) (ble rfl) [some (.ref t), some (.int key), some (.long w), none] rfl ?_
  intro x C M
  have t0 := hT.1
  refine v_aload_n C 0 dTa_find_0 rfl rfl ?_
  refine v_aload_n C 0 dTa_find_1 rfl rfl ?_
  refine v_iload_n C 1 dTa_find_2 rfl rfl ?_
  refine v_lload_n C 2 dTa_find_3 rfl rfl ?_
  refine v_cVi C (c_Ta_chainOf (kl x) (kD x) g I J key w) mwTa_chainOf cfTa (by assumption) w260 ws2 w258 rfl rfl (ble rfl) (ble rfl) (ble rfl) (ble rfl) (ble rfl) dTa_find_4 ?_
  refine v_iload_n C 1 dTa_find_7 rfl rfl ?_
  refine v_lload_n C 2 dTa_find_8 rfl rfl ?_
  refine v_cVi C (c_Ta_findIn (kl x) (kD x) g I J key w hT hok) mwTa_findIn cfTa (by assumption) w266 ws3 w264 rfl rfl (ble rfl) (ble rfl) (ble rfl) (ble rfl) (ble rfl) dTa_find_9 ?_
  exact v_iret C M dTa_find_12 (ble rfl) (ble rfl) (pf_i rfl rfl rfl)
