/-! Subject -/
def plsOf (P : Nat → Int32) (pr : Int32) : Nat → Int32
  | 0 => 0
  | m + 1 => if P m = pr then plsOf P pr m ||| jish 1 (nI m) else plsOf P pr m
def nmF (N9 : Nat → Int32) (num : Int32) : Nat → Nat → Nat
  | 0, i => i
  | m + 1, i => if N9 i = num then i else nmF N9 num m (i + 1)
def numOf (I : MI) (u o : Nat) : Int32 := if I u 5 = 5 then I o 3 else I o 2
theorem c_Su_forget (l : Launch) (D : va_G) (g : GM) (I : MI) (J : MJ) {u : Nat} (u0 : g.1 u = (3, 0)) : Ct l ySu_forget bSu_forget 1 none (rmN 0 0) D [.ref u] g I J (PF none g (s2 (s2 I u 9 0) u 14 0) J) := by
  refine Ct.of (by decide) (ble rfl) [some (.ref u)] rfl ?_
  intro x C M
  refine v_aload_n C 0 dSu_forget_0 rfl rfl ?_
  refine v_iconst C 0 dSu_forget_1 (by decide) ?_
  refine v_puti C cfSu (k := 9) (by assumption) rfl w397 rfl (by first | rfl | assumption) (by first | rfl | assumption) dSu_forget_2 ?_
  refine v_aload_n C 0 dSu_forget_5 rfl rfl ?_
  refine v_iconst C 0 dSu_forget_6 (by decide) ?_
  refine v_puti C cfSu (k := 14) (by assumption) rfl w406 rfl (by first | rfl | assumption) (by first | rfl | assumption) dSu_forget_7 ?_
  exact v_vret C M dSu_forget_10 (ble rfl) (ble rfl) (pf_v rfl rfl)
def begI (I : MI) (u : Nat) (kind : Int32) : MI := s2 (s2 (s2 (s2 (s2 (s2 (s2 (s2 I u 5 kind) u 6 0) u 7 0) u 8 0) u 16 0) u 17 (-1)) u 9 0) u 14 0
theorem c_Su_begin (l : Launch) (D : va_G) (g : GM) (I : MI) (J : MJ) {u : Nat} (kind : Int32) (u0 : g.1 u = (3, 0)) : Ct l ySu_begin bSu_begin 2 none (rmN 1 20) D [.ref u, .int kind] g I J (PF none g (begI I u kind) J) := by
  refine Ct.of (by decide) (ble rfl) [some (.ref u), some (.int kind)] rfl ?_
  intro x C M
  refine v_aload_n C 0 dSu_begin_0 rfl rfl ?_
  refine v_iload_n C 1 dSu_begin_1 rfl rfl ?_
  refine v_puti C cfSu (k := 5) (by assumption) rfl w391 rfl rfl rfl dSu_begin_2 ?_
  refine v_aload_n C 0 dSu_begin_5 rfl rfl ?_
  refine v_iconst C 0 dSu_begin_6 (by decide) ?_
  refine v_puti C cfSu (k := 6) (by assumption) rfl w393 rfl rfl rfl dSu_begin_7 ?_
  refine v_aload_n C 0 dSu_begin_10 rfl rfl ?_
  refine v_iconst C 0 dSu_begin_11 (by decide) ?_
  refine v_puti C cfSu (k := 7) (by assumption) rfl w395 rfl rfl rfl dSu_begin_12 ?_
  refine v_aload_n C 0 dSu_begin_15 rfl rfl ?_
  refine v_iconst C 0 dSu_begin_16 (by decide) ?_
  refine v_puti C cfSu (k := 8) (by assumption) rfl w396 rfl rfl rfl dSu_begin_17 ?_
  refine v_aload_n C 0 dSu_begin_20 rfl rfl ?_
  refine v_iconst C 0 dSu_begin_21 (by decide) ?_
  refine v_puti C cfSu (k := 16) (by assumption) rfl w409 rfl rfl rfl dSu_begin_22 ?_
  refine v_aload_n C 0 dSu_begin_25 rfl rfl ?_
  refine v_iconst C (-1) dSu_begin_26 (by decide) ?_
  refine v_puti C cfSu (k := 17) (by assumption) rfl w410 rfl rfl rfl dSu_begin_27 ?_
  refine v_aload_n C 0 dSu_begin_30 rfl rfl ?_
  refine v_cVv C (c_Su_forget (kl x) (kD x) g _ J u0) mwSu_forget cfSu (by assumption) w454 w455 w453 rfl rfl (ble rfl) (ble rfl) (ble rfl) (ble rfl) (ble rfl) dSu_begin_31 ?_
  exact v_vret C M dSu_begin_34 (ble rfl) (ble rfl) (pf_v rfl rfl)
theorem c_Su_operationsOfKind (l : Launch) (D : va_G) (g : GM) (I : MI) (J : MJ) {u : Nat} (u0 : g.1 u = (3, 0)) : Ct l ySu_operationsOfKind bSu_operationsOfKind 1 (some .int) (rmN 0 0) D [.ref u] g I J (PF (some (.int (if I u 5 = 0 then 5 else 3))) g I J) := by
  refine Ct.of (by decide) (ble rfl) [some (.ref u)] rfl ?_
  intro x C M
  refine v_aload_n C 0 dSu_operationsOfKind_0 rfl rfl ?_
  refine v_geti C cfSu (k := 5) (by assumption) rfl w391 dSu_operationsOfKind_1 ?_
  refine v_if_ne C 11 dSu_operationsOfKind_4 (by decide) (fun c4 => ?_) (fun c4 => ?_)
  · refine v_iconst C 3 dSu_operationsOfKind_11 (by decide) ?_
    exact v_iret C M dSu_operationsOfKind_12 (ble rfl) (ble rfl) (pf_i (by rw [if_neg c4]) rfl rfl)
  · refine v_iconst C 5 dSu_operationsOfKind_7 (by decide) ?_
    refine v_goto C 12 dSu_operationsOfKind_8 (by decide) ?_
    exact v_iret C M dSu_operationsOfKind_12 (ble rfl) (ble rfl) (pf_i (by rw [if_pos c4]) rfl rfl)
theorem c_Su_numberOf (l : Launch) (D : va_G) (g : GM) (I : MI) (J : MJ) {u o m : Nat} (u0 : g.1 u = (3, 0)) (ho : g.1 o = (0, m)) : Ct l ySu_numberOf bSu_numberOf 2 (some .int) (rmN 0 0) D [.ref u, .ref o] g I J (PF (some (.int (numOf I u o))) g I J) := by
  refine Ct.of (by decide) (ble rfl) [some (.ref u), some (.ref o)] rfl ?_
  intro x C M
  refine v_aload_n C 0 dSu_numberOf_0 rfl rfl ?_
  refine v_geti C cfSu (k := 5) (by assumption) rfl w391 dSu_numberOf_1 ?_
  refine v_iconst C 5 dSu_numberOf_4 (by decide) ?_
  refine v_icmp_ne C 15 dSu_numberOf_5 (by decide) (fun c5 => ?_) (fun c5 => ?_)
  · refine v_aload_n C 1 dSu_numberOf_15 rfl rfl ?_
    refine v_geti C cfOp (k := 2) (by assumption) rfl w356 dSu_numberOf_16 ?_
    exact v_iret C M dSu_numberOf_19 (ble rfl) (ble rfl) (pf_i (by unfold numOf; rw [if_neg c5]) rfl rfl)
  · refine v_aload_n C 1 dSu_numberOf_8 rfl rfl ?_
    refine v_geti C cfOp (k := 3) (by assumption) rfl w358 dSu_numberOf_9 ?_
    refine v_goto C 19 dSu_numberOf_12 (by decide) ?_
    exact v_iret C M dSu_numberOf_19 (ble rfl) (ble rfl) (pf_i (by unfold numOf; rw [if_pos c5]) rfl rfl)
theorem c_Su_placesOf (l : Launch) (D : va_G) (g : GM) (I : MI) (J : MJ) {u n : Nat} (pr : Int32) (hU : SuAt g u) (hn : I u 6 = nI n) (hn2 : n ≤ 16) : Ct l ySu_placesOf bSu_placesOf 4 (some .int) (rmN 0 0) D [.ref u, .int pr] g I J (PF (some (.int (plsOf (fun i => I (u + 14 + i) 0) pr n))) g I J) := by
  refine Ct.of (by decide) (ble rfl) [some (.ref u), some (.int pr), none, none] rfl ?_
  intro x C M
  obtain ⟨u0, hO, -, -, -, -, ur0, -⟩ := id hU
  have uA := hO.1
  refine v_iconst C 0 dSu_placesOf_0 (by decide) ?_
  refine v_istore_n C 2 dSu_placesOf_1 rfl (ble rfl) rfl ?_
  refine v_iconst C 0 dSu_placesOf_2 (by decide) ?_
  refine v_istore_n C 3 dSu_placesOf_3 rfl (ble rfl) rfl ?_
  have loop : ∀ (m i : Nat) (z : Int32), i + m = n → z = plsOf (fun i => I (u + 14 + i) 0) pr i → V x g 0 0 I J 4 [some (.ref u), some (.int pr), some (.int z), some (.int (nI i))] [] := by
    intro m
    induction m with
    | zero =>
      intro i z h1 h2
      refine v_iload_n C 3 dSu_placesOf_4 rfl rfl ?_
      refine v_aload_n C 0 dSu_placesOf_5 rfl rfl ?_
      refine v_geti C cfSu (k := 6) (by assumption) rfl w393 dSu_placesOf_6 ?_
      rw [hn]
      refine v_icmp_ge C 37 dSu_placesOf_9 (by decide) (fun _ => ?_) (fun h => absurd (nI_le (by omega) (by omega)) h)
      refine v_iload_n C 2 dSu_placesOf_37 rfl rfl ?_
      have h3 : i = n := by omega
      exact v_iret C M dSu_placesOf_38 (ble rfl) (ble rfl) (pf_i (by rw [h2, h3]) rfl rfl)
    | succ m ih =>
      intro i z h1 h2
      have hi : i < 16 := by omega
      have hic : (nI i).toNatClampNeg = i := nI_clamp (by omega)
      have hii : vp_in (nI i) 16 := vp_in_nI hi (by decide)
      have hor : g.2.1 (u + 1) (nI i).toNatClampNeg = some (u + 14 + i) := by rw [hic]; exact (hO.2 i hi).1
      have ho : g.1 (u + 14 + i) = (0, 0) := (hO.2 i hi).2
      refine v_iload_n C 3 dSu_placesOf_4 rfl rfl ?_
      refine v_aload_n C 0 dSu_placesOf_5 rfl rfl ?_
      refine v_geti C cfSu (k := 6) (by assumption) rfl w393 dSu_placesOf_6 ?_
      rw [hn]
      refine v_icmp_ge C 37 dSu_placesOf_9 (by decide) (fun h => absurd h (nI_ge (by omega) (by omega))) (fun _ => ?_)
      refine v_aload_n C 0 dSu_placesOf_12 rfl rfl ?_
      refine v_getr C cfSu (k := 0) (by assumption) rfl (by assumption) w384 dSu_placesOf_13 ?_
      refine v_iload_n C 3 dSu_placesOf_16 rfl rfl ?_
      refine v_pald C (by assumption) (by assumption) (by assumption) dSu_placesOf_17 ?_
      refine v_geti C cfOp (k := 0) (by assumption) rfl w352 dSu_placesOf_18 ?_
      refine v_iload_n C 1 dSu_placesOf_21 rfl rfl ?_
      refine v_icmp_ne C 31 dSu_placesOf_22 (by decide) (fun c22 => ?_) (fun c22 => ?_)
      · refine v_iinc C (nI (i + 1)) dSu_placesOf_31 rfl (nI_1 i) (ble rfl) rfl ?_
        refine v_goto C 4 dSu_placesOf_34 (by decide) ?_
        exact ih (i + 1) _ (by omega) (by rw [h2]; show _ = (if _ then _ else _); rw [if_neg c22])
      · refine v_iload_n C 2 dSu_placesOf_25 rfl rfl ?_
        refine v_iconst C 1 dSu_placesOf_26 (by decide) ?_
        refine v_iload_n C 3 dSu_placesOf_27 rfl rfl ?_
        refine v_ishl C dSu_placesOf_28 ?_
        refine v_ior C dSu_placesOf_29 ?_
        refine v_istore_n C 2 dSu_placesOf_30 rfl (ble rfl) rfl ?_
        refine v_iinc C (nI (i + 1)) dSu_placesOf_31 rfl (nI_1 i) (ble rfl) rfl ?_
        refine v_goto C 4 dSu_placesOf_34 (by decide) ?_
        exact ih (i + 1) _ (by omega) (by rw [h2]; show _ = (if _ then _ else _); rw [if_pos c22]; rfl)
  exact loop n 0 0 (by omega) rfl
theorem c_Su_nameOf (l : Launch) (D : va_G) (g : GM) (I : MI) (J : MJ) {u n : Nat} (num : Int32) (hU : SuAt g u) (hn : I u 6 = nI n) (hn2 : n ≤ 16) : Ct l ySu_nameOf bSu_nameOf 3 (some .int) (rmN 1 21) D [.ref u, .int num] g I J (PF (some (.int (nI (nmF (fun i => numOf I u (u + 14 + i)) num n 0)))) g I J) := by
  refine Ct.of (by decide) (ble rfl) [some (.ref u), some (.int num), none] rfl ?_
  intro x C M
  obtain ⟨u0, hO, -, -, -, -, ur0, -⟩ := id hU
  have uA := hO.1
  refine v_iconst C 0 dSu_nameOf_0 (by decide) ?_
  refine v_istore_n C 2 dSu_nameOf_1 rfl (ble rfl) rfl ?_
  have loop : ∀ (m i : Nat), i + m = n → nmF (fun i => numOf I u (u + 14 + i)) num m i = nmF (fun i => numOf I u (u + 14 + i)) num n 0 → V x g 0 0 I J 2 [some (.ref u), some (.int num), some (.int (nI i))] [] := by
    intro m
    induction m with
    | zero =>
      intro i h1 h2
      refine v_iload_n C 2 dSu_nameOf_2 rfl rfl ?_
      refine v_aload_n C 0 dSu_nameOf_3 rfl rfl ?_
      refine v_geti C cfSu (k := 6) (by assumption) rfl w393 dSu_nameOf_4 ?_
      rw [hn]
      refine v_icmp_ge C 32 dSu_nameOf_7 (by decide) (fun _ => ?_) (fun h => absurd (nI_le (by omega) (by omega)) h)
      refine v_aload_n C 0 dSu_nameOf_32 rfl rfl ?_
      refine v_geti C cfSu (k := 6) (by assumption) rfl w393 dSu_nameOf_33 ?_
      rw [hn]
      have h3 : i = n := by omega
      exact v_iret C M dSu_nameOf_36 (ble rfl) (ble rfl) (pf_i (by rw [← h2, ← h3]; rfl) rfl rfl)
    | succ m ih =>
      intro i h1 h2
      have hi : i < 16 := by omega
      have hic : (nI i).toNatClampNeg = i := nI_clamp (by omega)
      have hii : vp_in (nI i) 16 := vp_in_nI hi (by decide)
      have hor : g.2.1 (u + 1) (nI i).toNatClampNeg = some (u + 14 + i) := by rw [hic]; exact (hO.2 i hi).1
      have ho : g.1 (u + 14 + i) = (0, 0) := (hO.2 i hi).2
      refine v_iload_n C 2 dSu_nameOf_2 rfl rfl ?_
      refine v_aload_n C 0 dSu_nameOf_3 rfl rfl ?_
      refine v_geti C cfSu (k := 6) (by assumption) rfl w393 dSu_nameOf_4 ?_
      rw [hn]
      refine v_icmp_ge C 32 dSu_nameOf_7 (by decide) (fun h => absurd h (nI_ge (by omega) (by omega))) (fun _ => ?_)
      refine v_aload_n C 0 dSu_nameOf_10 rfl rfl ?_
      refine v_aload_n C 0 dSu_nameOf_11 rfl rfl ?_
      refine v_getr C cfSu (k := 0) (by assumption) rfl (by assumption) w384 dSu_nameOf_12 ?_
      refine v_iload_n C 2 dSu_nameOf_15 rfl rfl ?_
      refine v_pald C (by assumption) (by assumption) (by assumption) dSu_nameOf_16 ?_
      refine v_cVi C (c_Su_numberOf (kl x) (kD x) g I J u0 ho) mwSu_numberOf cfSu (by assumption) w500 w501 w499 rfl rfl (ble rfl) (ble rfl) (ble rfl) (ble rfl) (ble rfl) dSu_nameOf_17 ?_
      refine v_iload_n C 1 dSu_nameOf_20 rfl rfl ?_
      refine v_icmp_ne C 26 dSu_nameOf_21 (by decide) (fun c21 => ?_) (fun c21 => ?_)
      · refine v_iinc C (nI (i + 1)) dSu_nameOf_26 rfl (nI_1 i) (ble rfl) rfl ?_
        refine v_goto C 2 dSu_nameOf_29 (by decide) ?_
        refine ih (i + 1) (by omega) ?_
        rw [← h2]
        simp only [nmF, if_neg c21]
      · refine v_iload_n C 2 dSu_nameOf_24 rfl rfl ?_
        exact v_iret C M dSu_nameOf_25 (ble rfl) (ble rfl) (pf_i (by rw [← h2]; simp only [nmF, if_pos c21]) rfl rfl)
  exact loop n 0 (by omega) rfl
def addI (I : MI) (u n : Nat) (pr code a b : Int32) : MI :=
  s2 (s2 (s2 (s2 (s2 (s2 (s2 (s2 (s2 (s2 (s2 I (u + 14 + n) 0 pr) (u + 14 + n) 1 code) (u + 14 + n) 2 a) (u + 14 + n) 3 b) (u + 14 + n) 5 0) (u + 14 + n) 6 (I u 8)) (u + 14 + n) 7 (plsOf (fun i => I (u + 14 + i) 0) pr n)) (u + 14 + n) 4 (nI (nmF (fun i => numOf I u (u + 14 + i)) (if I u 5 = 5 then b else a) n 0))) u 6 (nI (n + 1))) u 9 0) u 14 0
theorem plsOf_congr {P P2 : Nat → Int32} {pr : Int32} : ∀ n : Nat, (∀ i, i < n → P2 i = P i) → plsOf P2 pr n = plsOf P pr n
  | 0, _ => rfl
  | n + 1, h => by
    simp only [plsOf]
    rw [h n (Nat.lt_succ_self n), plsOf_congr n (fun i hi => h i (Nat.lt_succ_of_lt hi))]
theorem nmF_congr {P P2 : Nat → Int32} {num : Int32} : ∀ (m i : Nat), (∀ j, i ≤ j → j < i + m → P2 j = P j) → nmF P2 num m i = nmF P num m i
  | 0, _, _ => rfl
  | m + 1, i, h => by
    simp only [nmF]
    rw [h i (Nat.le_refl i) (by omega), nmF_congr m (i + 1) (fun j h1 h2 => h j (by omega) (by omega))]
theorem c_Su_addOperation (l : Launch) (D : va_G) (g : GM) (I : MI) (J : MJ) {u n : Nat} (pr code a b : Int32) (hU : SuAt g u) (hn : I u 6 = nI n) (hn2 : n < 16) : Ct l ySu_addOperation bSu_addOperation 6 none (rmN 2 43) D [.ref u, .int pr, .int code, .int a, .int b] g I J (PF none g (addI I u n pr code a b) J) := by
  refine Ct.of (by decide) (ble rfl) [some (.ref u), some (.int pr), some (.int code), some (.int a), some (.int b), none] rfl ?_
  intro x C M
  obtain ⟨u0, hO, -, -, -, -, ur0, -⟩ := id hU
  have uA := hO.1
  have hic : (nI n).toNatClampNeg = n := nI_clamp (by omega)
  have hii : vp_in (nI n) 16 := vp_in_nI hn2 (by decide)
  have hor : g.2.1 (u + 1) (nI n).toNatClampNeg = some (u + 14 + n) := by rw [hic]; exact (hO.2 n hn2).1
  have ho : g.1 (u + 14 + n) = (0, 0) := (hO.2 n hn2).2
  refine v_aload_n C 0 dSu_addOperation_0 rfl rfl ?_
  refine v_geti C cfSu (k := 6) (by assumption) rfl w393 dSu_addOperation_1 ?_
  rw [hn]
  refine v_bipush C 16 dSu_addOperation_4 (by decide) ?_
  refine v_icmp_lt C 10 dSu_addOperation_6 (by decide) (fun _ => ?_) (fun h => absurd (nI_lt (b := 16) hn2 (by decide)) h)
  refine v_aload_n C 0 dSu_addOperation_10 rfl rfl ?_
  refine v_getr C cfSu (k := 0) (by assumption) rfl (by assumption) w384 dSu_addOperation_11 ?_
  refine v_aload_n C 0 dSu_addOperation_14 rfl rfl ?_
  refine v_geti C cfSu (k := 6) (by assumption) rfl w393 dSu_addOperation_15 ?_
  rw [hn]
  refine v_pald C (by assumption) (by assumption) (by assumption) dSu_addOperation_18 ?_
  refine v_astore C dSu_addOperation_19 (ble rfl) rfl ?_
  refine v_aload C dSu_addOperation_21 rfl ?_
  refine v_iload_n C 1 dSu_addOperation_23 rfl rfl ?_
  refine v_puti C cfOp (k := 0) (by assumption) rfl w352 rfl rfl rfl dSu_addOperation_24 ?_
  refine v_aload C dSu_addOperation_27 rfl ?_
  refine v_iload_n C 2 dSu_addOperation_29 rfl rfl ?_
  refine v_puti C cfOp (k := 1) (by assumption) rfl w354 rfl rfl rfl dSu_addOperation_30 ?_
  refine v_aload C dSu_addOperation_33 rfl ?_
  refine v_iload_n C 3 dSu_addOperation_35 rfl rfl ?_
  refine v_puti C cfOp (k := 2) (by assumption) rfl w356 rfl rfl rfl dSu_addOperation_36 ?_
  refine v_aload C dSu_addOperation_39 rfl ?_
  refine v_iload C dSu_addOperation_41 rfl ?_
  refine v_puti C cfOp (k := 3) (by assumption) rfl w358 rfl rfl rfl dSu_addOperation_43 ?_
  refine v_aload C dSu_addOperation_46 rfl ?_
  refine v_iconst C 0 dSu_addOperation_48 (by decide) ?_
  refine v_puti C cfOp (k := 5) (by assumption) rfl w362 rfl rfl rfl dSu_addOperation_49 ?_
  refine v_aload C dSu_addOperation_52 rfl ?_
  refine v_aload_n C 0 dSu_addOperation_54 rfl rfl ?_
  refine v_geti C cfSu (k := 8) (by assumption) rfl w396 dSu_addOperation_55 ?_
  rw [s2_a (show u ≠ u + 14 + n by omega), s2_a (show u ≠ u + 14 + n by omega), s2_a (show u ≠ u + 14 + n by omega), s2_a (show u ≠ u + 14 + n by omega), s2_a (show u ≠ u + 14 + n by omega)]
  refine v_puti C cfOp (k := 6) (by assumption) rfl w364 rfl rfl rfl dSu_addOperation_58 ?_
  refine v_aload C dSu_addOperation_61 rfl ?_
  refine v_aload_n C 0 dSu_addOperation_63 rfl rfl ?_
  refine v_iload_n C 1 dSu_addOperation_64 rfl rfl ?_
  generalize eI : s2 (s2 (s2 (s2 (s2 (s2 I (u + 14 + n) 0 pr) (u + 14 + n) 1 code) (u + 14 + n) 2 a) (u + 14 + n) 3 b) (u + 14 + n) 5 0) (u + 14 + n) 6 (I u 8) = I6
  have o6 : ∀ q, q ≠ u + 14 + n → I6 q = I q := fun q hq => by rw [← eI, s2_off hq, s2_off hq, s2_off hq, s2_off hq, s2_off hq, s2_off hq]
  have e6u : I6 u = I u := o6 u (by omega)
  have en6 : I6 u 6 = nI n := by rw [e6u]; exact hn
  refine v_cVi C (c_Su_placesOf (kl x) (kD x) g I6 J pr hU en6 (by omega)) mwSu_placesOf cfSu (by assumption) w496 w497 w495 rfl rfl (ble rfl) (ble rfl) (ble rfl) (ble rfl) (ble rfl) dSu_addOperation_65 ?_
  rw [plsOf_congr (P := fun i => I (u + 14 + i) 0) n (fun i hi => by show I6 _ _ = I _ _; rw [o6 _ (by omega)])]
  refine v_puti C cfOp (k := 7) (by assumption) rfl w366 rfl rfl rfl dSu_addOperation_68 ?_
  refine v_aload C dSu_addOperation_71 rfl ?_
  refine v_aload_n C 0 dSu_addOperation_73 rfl rfl ?_
  refine v_aload_n C 0 dSu_addOperation_74 rfl rfl ?_
  refine v_aload C dSu_addOperation_75 rfl ?_
  refine v_cVi C (c_Su_numberOf (kl x) (kD x) g _ J u0 ho) mwSu_numberOf cfSu (by assumption) w500 w501 w499 rfl rfl (ble rfl) (ble rfl) (ble rfl) (ble rfl) (ble rfl) dSu_addOperation_77 ?_
  have enum : numOf (s2 I6 (u + 14 + n) 7 (plsOf (fun i => I (u + 14 + i) 0) pr n)) u (u + 14 + n) = (if I u 5 = 5 then b else a) := by
    unfold numOf
    rw [s2_a (show u ≠ u + 14 + n by omega), s2_k (by decide), s2_k (by decide), e6u, ← eI]
    rw [s2_k (by decide), s2_k (by decide), s2_self, s2_k (by decide), s2_k (by decide), s2_k (by decide), s2_self]
  rw [enum]
  refine v_cVi C (c_Su_nameOf (kl x) (kD x) g _ J _ hU (by rw [s2_a (by omega)]; exact en6) (by omega)) mwSu_nameOf cfSu (by assumption) w504 w505 w503 rfl rfl (ble rfl) (ble rfl) (ble rfl) (ble rfl) (ble rfl) dSu_addOperation_80 ?_
  rw [nmF_congr (P := fun i => numOf I u (u + 14 + i)) n 0 (fun j _ hj => by
    show numOf _ _ _ = numOf _ _ _
    unfold numOf
    rw [s2_a (by omega), s2_a (by omega), s2_a (by omega), o6 _ (by omega), o6 _ (by omega)])]
  refine v_puti C cfOp (k := 4) (by assumption) rfl w360 rfl rfl rfl dSu_addOperation_83 ?_
  refine v_aload_n C 0 dSu_addOperation_86 rfl rfl ?_
  refine v_dup C dSu_addOperation_87 rfl ?_
  refine v_geti C cfSu (k := 6) (by assumption) rfl w393 dSu_addOperation_88 ?_
  rw [s2_a (show u ≠ u + 14 + n by omega), s2_a (show u ≠ u + 14 + n by omega), e6u, hn]
  refine v_iconst C 1 dSu_addOperation_91 (by decide) ?_
  refine v_iadd C dSu_addOperation_92 ?_
  refine v_puti C cfSu (k := 6) (by assumption) rfl w393 rfl rfl rfl dSu_addOperation_93 ?_
  refine v_aload_n C 0 dSu_addOperation_96 rfl rfl ?_
  refine v_cVv C (c_Su_forget (kl x) (kD x) g _ J u0) mwSu_forget cfSu (by assumption) w454 w455 w453 rfl rfl (ble rfl) (ble rfl) (ble rfl) (ble rfl) (ble rfl) dSu_addOperation_97 ?_
  exact v_vret C M dSu_addOperation_100 (ble rfl) (ble rfl) (pf_v (by rw [← eI, nI_1]; rfl) rfl)
def endI (I : MI) (u p k : Nat) (res ev : Int32) : MI :=
  s2 (s2 (s2 (s2 (s2 (s2 (s2 (s2 I (u + 14 + p) 5 res) u 8 (I u 8 ||| jish 1 (nI p))) (u + 11) k ev) (u + 12) k (I u 6)) (u + 13) k (I u 8 ||| jish 1 (nI p))) u 7 (nI (k + 1))) u 9 0) u 14 0
theorem c_Su_endOperation (l : Launch) (D : va_G) (g : GM) (I : MI) (J : MJ) {u n p k : Nat} (res ev : Int32) (hU : SuAt g u) (hn : I u 6 = nI n) (hn2 : n ≤ 16) (hp : p < n) (hk : I u 7 = nI k) (hk2 : k < 16) : Ct l ySu_endOperation bSu_endOperation 4 none (rmN 1 20) D [.ref u, .int (nI p), .int res, .int ev] g I J (PF none g (endI I u p k res ev) J) := by
  refine Ct.of (by decide) (ble rfl) [some (.ref u), some (.int (nI p)), some (.int res), some (.int ev)] rfl ?_
  intro x C M
  obtain ⟨u0, hO, -, u11, u12, u13, ur0, ur1, ur2, ur3, ur4⟩ := id hU
  have uA := hO.1
  have hp16 : p < 16 := by omega
  have hpc : (nI p).toNatClampNeg = p := nI_clamp (by omega)
  have hpi : vp_in (nI p) 16 := vp_in_nI hp16 (by decide)
  have hkc : (nI k).toNatClampNeg = k := nI_clamp (by omega)
  have hki : vp_in (nI k) 16 := vp_in_nI hk2 (by decide)
  have hor : g.2.1 (u + 1) (nI p).toNatClampNeg = some (u + 14 + p) := by rw [hpc]; exact (hO.2 p hp16).1
  have ho : g.1 (u + 14 + p) = (0, 0) := (hO.2 p hp16).2
  refine v_iload_n C 1 dSu_endOperation_0 rfl rfl ?_
  refine v_if_lt C 21 dSu_endOperation_1 (by decide) (fun h => absurd h (nI_pos (by omega))) (fun _ => ?_)
  refine v_iload_n C 1 dSu_endOperation_4 rfl rfl ?_
  refine v_aload_n C 0 dSu_endOperation_5 rfl rfl ?_
  refine v_geti C cfSu (k := 6) (by assumption) rfl w393 dSu_endOperation_6 ?_
  rw [hn]
  refine v_icmp_ge C 21 dSu_endOperation_9 (by decide) (fun h => absurd h (nI_ge hp (by omega))) (fun _ => ?_)
  refine v_aload_n C 0 dSu_endOperation_12 rfl rfl ?_
  refine v_geti C cfSu (k := 7) (by assumption) rfl w395 dSu_endOperation_13 ?_
  rw [hk]
  refine v_bipush C 16 dSu_endOperation_16 (by decide) ?_
  refine v_icmp_lt C 22 dSu_endOperation_18 (by decide) (fun _ => ?_) (fun h => absurd (nI_lt (b := 16) hk2 (by decide)) h)
  refine v_aload_n C 0 dSu_endOperation_22 rfl rfl ?_
  refine v_getr C cfSu (k := 0) (by assumption) rfl (by assumption) w384 dSu_endOperation_23 ?_
  refine v_iload_n C 1 dSu_endOperation_26 rfl rfl ?_
  refine v_pald C (by assumption) (by assumption) (by assumption) dSu_endOperation_27 ?_
  refine v_iload_n C 2 dSu_endOperation_28 rfl rfl ?_
  refine v_puti C cfOp (k := 5) (by assumption) rfl w362 rfl rfl rfl dSu_endOperation_29 ?_
  refine v_aload_n C 0 dSu_endOperation_32 rfl rfl ?_
  refine v_dup C dSu_endOperation_33 rfl ?_
  refine v_geti C cfSu (k := 8) (by assumption) rfl w396 dSu_endOperation_34 ?_
  rw [s2_a (show u ≠ u + 14 + p by omega)]
  refine v_iconst C 1 dSu_endOperation_37 (by decide) ?_
  refine v_iload_n C 1 dSu_endOperation_38 rfl rfl ?_
  refine v_ishl C dSu_endOperation_39 ?_
  refine v_ior C dSu_endOperation_40 ?_
  refine v_puti C cfSu (k := 8) (by assumption) rfl w396 rfl rfl rfl dSu_endOperation_41 ?_
  refine v_aload_n C 0 dSu_endOperation_44 rfl rfl ?_
  refine v_getr C cfSu (k := 2) (by assumption) rfl (by assumption) w388 dSu_endOperation_45 ?_
  refine v_aload_n C 0 dSu_endOperation_48 rfl rfl ?_
  refine v_geti C cfSu (k := 7) (by assumption) rfl w395 dSu_endOperation_49 ?_
  rw [s2_k (show 7 ≠ 8 by decide), s2_a (show u ≠ u + 14 + p by omega), hk]
  refine v_iload_n C 3 dSu_endOperation_52 rfl rfl ?_
  refine v_iast C (by assumption) (by assumption) dSu_endOperation_53 ?_
  rw [hkc]
  refine v_aload_n C 0 dSu_endOperation_54 rfl rfl ?_
  refine v_getr C cfSu (k := 3) (by assumption) rfl (by assumption) w389 dSu_endOperation_55 ?_
  refine v_aload_n C 0 dSu_endOperation_58 rfl rfl ?_
  refine v_geti C cfSu (k := 7) (by assumption) rfl w395 dSu_endOperation_59 ?_
  rw [s2_a (show u ≠ u + 11 by omega), s2_k (show 7 ≠ 8 by decide), s2_a (show u ≠ u + 14 + p by omega), hk]
  refine v_aload_n C 0 dSu_endOperation_62 rfl rfl ?_
  refine v_geti C cfSu (k := 6) (by assumption) rfl w393 dSu_endOperation_63 ?_
  rw [s2_a (show u ≠ u + 11 by omega), s2_k (show 6 ≠ 8 by decide), s2_a (show u ≠ u + 14 + p by omega)]
  refine v_iast C (by assumption) (by assumption) dSu_endOperation_66 ?_
  rw [hkc]
  refine v_aload_n C 0 dSu_endOperation_67 rfl rfl ?_
  refine v_getr C cfSu (k := 4) (by assumption) rfl (by assumption) w390 dSu_endOperation_68 ?_
  refine v_aload_n C 0 dSu_endOperation_71 rfl rfl ?_
  refine v_geti C cfSu (k := 7) (by assumption) rfl w395 dSu_endOperation_72 ?_
  rw [s2_a (show u ≠ u + 12 by omega), s2_a (show u ≠ u + 11 by omega), s2_k (show 7 ≠ 8 by decide), s2_a (show u ≠ u + 14 + p by omega), hk]
  refine v_aload_n C 0 dSu_endOperation_75 rfl rfl ?_
  refine v_geti C cfSu (k := 8) (by assumption) rfl w396 dSu_endOperation_76 ?_
  rw [s2_a (show u ≠ u + 12 by omega), s2_a (show u ≠ u + 11 by omega), s2_self]
  refine v_iast C (by assumption) (by assumption) dSu_endOperation_79 ?_
  rw [hkc]
  refine v_aload_n C 0 dSu_endOperation_80 rfl rfl ?_
  refine v_dup C dSu_endOperation_81 rfl ?_
  refine v_geti C cfSu (k := 7) (by assumption) rfl w395 dSu_endOperation_82 ?_
  rw [s2_a (show u ≠ u + 13 by omega), s2_a (show u ≠ u + 12 by omega), s2_a (show u ≠ u + 11 by omega), s2_k (show 7 ≠ 8 by decide), s2_a (show u ≠ u + 14 + p by omega), hk]
  refine v_iconst C 1 dSu_endOperation_85 (by decide) ?_
  refine v_iadd C dSu_endOperation_86 ?_
  refine v_puti C cfSu (k := 7) (by assumption) rfl w395 rfl rfl rfl dSu_endOperation_87 ?_
  refine v_aload_n C 0 dSu_endOperation_90 rfl rfl ?_
  refine v_cVv C (c_Su_forget (kl x) (kD x) g _ J u0) mwSu_forget cfSu (by assumption) w454 w455 w453 rfl rfl (ble rfl) (ble rfl) (ble rfl) (ble rfl) (ble rfl) dSu_endOperation_91 ?_
  exact v_vret C M dSu_endOperation_94 (ble rfl) (ble rfl) (pf_v (by rw [nI_1]; rfl) rfl)
