/-! LinearHistories, where its methods return -/
section VU
variable {x : KX} {cc : ByteArray} {own : String} {nL : Nat} {rm : Room} {g : GM} {cells slots : Nat} {I : MI} {J : MJ} {pc : Nat} {lv : List (Option Value)} {st : List Value}
theorem v_ualds (C : Cx x cc own nL rm) {a n b : Nat} {i : Int32} (hs : g.1 a = (14, n)) (hin : vp_in i n) (hr : g.2.1 a i.toNatClampNeg = some b) (d : decode cc pc = .ok (.aaload, 1)) (kk : V x g cells slots I J (pc + 1) lv (.ref b :: st)) : V x g cells slots I J pc lv (.int i :: .ref a :: st) := by
  refine v_uald C hs hin d ?_
  rw [hr]
  exact kk
theorem v_ualdn (C : Cx x cc own nL rm) {a n : Nat} {i : Int32} (hs : g.1 a = (14, n)) (hin : vp_in i n) (hr : g.2.1 a i.toNatClampNeg = none) (d : decode cc pc = .ok (.aaload, 1)) (kk : V x g cells slots I J (pc + 1) lv (.null :: st)) : V x g cells slots I J pc lv (.int i :: .ref a :: st) := by
  refine v_uald C hs hin d ?_
  rw [hr]
  exact kk
theorem v_astoreN (C : Cx x cc own nL rm) {q : Fin 4} (i : Nat) (d : decode cc pc = .ok (.astore_n q, 1)) (hi : (q : Nat) = i) (hn : i < nL) (hok : ok1 lv i = true) (k : V x g cells slots I J (pc + 1) (lv.set i (some .null)) st) : V x g cells slots I J pc lv (.null :: st) := fun H locs ls a1 a2 a3 a4 a5 => lv_astore_nN C.1 C.2.1 d hi a5 (by rw [C.2.2.2.2.2.2.1]; exact hn) rfl (fun ls h => k H locs ls a1 a2 a3 a4 (lh.set1 h hok))
theorem v_aloadN (C : Cx x cc own nL rm) {q : Fin 4} (i : Nat) (d : decode cc pc = .ok (.aload_n q, 1)) (hi : (q : Nat) = i) (h : lv[i]? = some (some .null)) (k : V x g cells slots I J (pc + 1) lv (.null :: st)) : V x g cells slots I J pc lv st := fun H locs ls a1 a2 a3 a4 a5 => lv_aload_nN C.1 C.2.1 d hi (a5.at h) (k H locs ls a1 a2 a3 a4 a5)
end VU
theorem c_LH_checkProcess (l : Launch) (D : va_G) (g : GM) (I : MI) (J : MJ) {a p : Nat} (hp : p < 8) : Ct l yLH_checkProcess bLH_checkProcess 2 none (rmN 0 0) D [.ref a, .int (nI p)] g I J (PF none g I J) := by
  refine Ct.of (by decide) (ble rfl) [some (.ref a), some (.int (nI p))] rfl ?_
  intro x C M
  refine v_iload_n C 1 dLH_checkProcess_0 rfl rfl ?_
  refine v_if_lt C 10 dLH_checkProcess_1 (by decide) (fun h => absurd h (nI_pos (by omega))) (fun _ => ?_)
  refine v_iload_n C 1 dLH_checkProcess_4 rfl rfl ?_
  refine v_bipush C 8 dLH_checkProcess_5 (by decide) ?_
  refine v_icmp_lt C 20 dLH_checkProcess_7 (by decide) (fun _ => ?_) (fun h => absurd (nI_lt (b := 8) hp (by decide)) h)
  exact v_vret C M dLH_checkProcess_20 (ble rfl) (ble rfl) ⟨rfl, rfl, rfl, rfl⟩
theorem c_LH_checkLinear (l : Launch) (D : va_G) (g : GM) (I : MI) (J : MJ) {a : Nat} : Ct l yLH_checkLinear bLH_checkLinear 2 none (rmN 0 0) D [.ref a, .int 1] g I J (PF none g I J) := by
  refine Ct.of (by decide) (ble rfl) [some (.ref a), some (.int 1)] rfl ?_
  intro x C M
  refine v_iload_n C 1 dLH_checkLinear_0 rfl rfl ?_
  refine v_iconst C 1 dLH_checkLinear_1 (by decide) ?_
  refine v_icmp_eq C 15 dLH_checkLinear_2 (by decide) (fun _ => ?_) (fun h => absurd rfl h)
  exact v_vret C M dLH_checkLinear_15 (ble rfl) (ble rfl) ⟨rfl, rfl, rfl, rfl⟩
theorem c_LH_checkPlace (l : Launch) (D : va_G) (g : GM) (I : MI) (J : MJ) {a i n : Nat} (a0 : g.1 a = (5, 0)) (hn : I a 9 = nI n) (hn2 : n ≤ 48) (hi : i < n) : Ct l yLH_checkPlace bLH_checkPlace 2 none (rmN 0 0) D [.ref a, .int (nI i)] g I J (PF none g I J) := by
  refine Ct.of (by decide) (ble rfl) [some (.ref a), some (.int (nI i))] rfl ?_
  intro x C M
  refine v_iload_n C 1 dLH_checkPlace_0 rfl rfl ?_
  refine v_if_lt C 12 dLH_checkPlace_1 (by decide) (fun h => absurd h (nI_pos (by omega))) (fun _ => ?_)
  refine v_iload_n C 1 dLH_checkPlace_4 rfl rfl ?_
  refine v_aload_n C 0 dLH_checkPlace_5 rfl rfl ?_
  refine v_geti C cfLH (k := 9) (by assumption) rfl w120 dLH_checkPlace_6 ?_
  rw [hn]
  refine v_icmp_lt C 22 dLH_checkPlace_9 (by decide) (fun _ => ?_) (fun h => absurd (nI_lt hi (by omega)) h)
  exact v_vret C M dLH_checkPlace_22 (ble rfl) (ble rfl) ⟨rfl, rfl, rfl, rfl⟩
theorem c_LH_subjectOf (l : Launch) (D : va_G) (g : GM) (I : MI) (J : MJ) {a k no b : Nat} (hA : LHAt g a) (hn : I a 11 = nI no) (hn2 : no ≤ 6) (hk : k < no) (hb : g.2.1 (a + 1) k = some b) : Ct l yLH_subjectOf bLH_subjectOf 2 (some (.object "LinearHistories$Subject")) (rmN 0 0) D [.ref a, .int (nI k)] g I J (PF (some (.ref b)) g I J) := by
  refine Ct.of (by decide) (ble rfl) [some (.ref a), some (.int (nI k))] rfl ?_
  intro x C M
  obtain ⟨a0, a1, a2, a3, a4, a5, hS, a15, a16, a17, r0, r1, r2, r3, r4, r5, r6, r7, r8⟩ := id hA
  have hkc : (nI k).toNatClampNeg = k := nI_clamp (by omega)
  have hki : vp_in (nI k) 6 := vp_in_nI (by omega) (by decide)
  have hb2 : g.2.1 (a + 1) (nI k).toNatClampNeg = some b := by rw [hkc]; exact hb
  refine v_iload_n C 1 dLH_subjectOf_0 rfl rfl ?_
  refine v_if_lt C 21 dLH_subjectOf_1 (by decide) (fun h => absurd h (nI_pos (by omega))) (fun _ => ?_)
  refine v_iload_n C 1 dLH_subjectOf_4 rfl rfl ?_
  refine v_aload_n C 0 dLH_subjectOf_5 rfl rfl ?_
  refine v_geti C cfLH (k := 11) (by assumption) rfl w122 dLH_subjectOf_6 ?_
  rw [hn]
  refine v_icmp_ge C 21 dLH_subjectOf_9 (by decide) (fun h => absurd h (nI_ge hk (by omega))) (fun _ => ?_)
  refine v_aload_n C 0 dLH_subjectOf_12 rfl rfl ?_
  refine v_getr C cfLH (k := 0) (by assumption) rfl (by assumption) w111 dLH_subjectOf_13 ?_
  refine v_iload_n C 1 dLH_subjectOf_16 rfl rfl ?_
  refine v_ualds C a1 hki hb2 dLH_subjectOf_17 ?_
  refine v_ifnonnull C 31 dLH_subjectOf_18 (by decide) ?_
  refine v_aload_n C 0 dLH_subjectOf_31 rfl rfl ?_
  refine v_getr C cfLH (k := 0) (by assumption) rfl (by assumption) w111 dLH_subjectOf_32 ?_
  refine v_iload_n C 1 dLH_subjectOf_35 rfl rfl ?_
  refine v_ualds C a1 hki hb2 dLH_subjectOf_36 ?_
  exact v_aret C M dLH_subjectOf_37 (ble rfl) (ble rfl) ⟨rfl, rfl, rfl, rfl⟩
theorem c_LH_operationOf (l : Launch) (D : va_G) (g : GM) (I : MI) (J : MJ) {a p : Nat} (hA : LHAt g a) (hp : p < 8) (hw : I (a + 5) p ≠ -1) : Ct l yLH_operationOf bLH_operationOf 2 (some .int) (rmN 1 21) D [.ref a, .int (nI p)] g I J (PF (some (.int (I (a + 5) p))) g I J) := by
  refine Ct.of (by decide) (ble rfl) [some (.ref a), some (.int (nI p))] rfl ?_
  intro x C M
  obtain ⟨a0, a1, a2, a3, a4, a5, hS, a15, a16, a17, r0, r1, r2, r3, r4, r5, r6, r7, r8⟩ := id hA
  have hpc : (nI p).toNatClampNeg = p := nI_clamp (by omega)
  have hpi : vp_in (nI p) 8 := vp_in_nI hp (by decide)
  refine v_aload_n C 0 dLH_operationOf_0 rfl rfl ?_
  refine v_iload_n C 1 dLH_operationOf_1 rfl rfl ?_
  refine v_cVv C (c_LH_checkProcess (kl x) (kD x) g I J hp) mwLH_checkProcess cfLH (by assumption) w467 ws13 w465 rfl rfl (ble rfl) (ble rfl) (ble rfl) (ble rfl) (ble rfl) dLH_operationOf_2 ?_
  refine v_aload_n C 0 dLH_operationOf_5 rfl rfl ?_
  refine v_getr C cfLH (k := 4) (by assumption) rfl (by assumption) w115 dLH_operationOf_6 ?_
  refine v_iload_n C 1 dLH_operationOf_9 rfl rfl ?_
  refine v_iald C (by assumption) (by assumption) dLH_operationOf_10 ?_
  rw [hpc]
  refine v_iconst C (-1) dLH_operationOf_11 (by decide) ?_
  refine v_icmp_ne C 25 dLH_operationOf_12 (by decide) (fun _ => ?_) (fun h => absurd h hw)
  refine v_aload_n C 0 dLH_operationOf_25 rfl rfl ?_
  refine v_getr C cfLH (k := 4) (by assumption) rfl (by assumption) w115 dLH_operationOf_26 ?_
  refine v_iload_n C 1 dLH_operationOf_29 rfl rfl ?_
  refine v_iald C (by assumption) (by assumption) dLH_operationOf_30 ?_
  rw [hpc]
  exact v_iret C M dLH_operationOf_31 (ble rfl) (ble rfl) (pf_i rfl rfl rfl)
theorem c_LH_events (l : Launch) (D : va_G) (g : GM) (I : MI) (J : MJ) {a : Nat} (a0 : g.1 a = (5, 0)) : Ct l yLH_events bLH_events 1 (some .int) (rmN 0 0) D [.ref a] g I J (PF (some (.int (I a 13))) g I J) := by
  refine Ct.of (by decide) (ble rfl) [some (.ref a)] rfl ?_
  intro x C M
  refine v_aload_n C 0 dLH_events_0 rfl rfl ?_
  refine v_geti C cfLH (k := 13) (by assumption) rfl w124 dLH_events_1 ?_
  exact v_iret C M dLH_events_4 (ble rfl) (ble rfl) (pf_i rfl rfl rfl)
theorem c_LH_clear (l : Launch) (D : va_G) (g : GM) (I : MI) (J : MJ) {a : Nat} (hA : LHAt g a) : Ct l yLH_clear bLH_clear 2 (some .int) (rmN 1 23) D [.ref a] g I J (fun v g2 I2 J2 => v = some (.int (I a 13)) ∧ g2 = g ∧ J2 = s2 J a 14 0 ∧ (∀ b, b ≠ a → b ≠ a + 5 → I2 b = I b) ∧ (∀ j, j < 8 → I2 (a + 5) j = -1) ∧ I2 a 10 = 0 ∧ I2 a 11 = 0 ∧ I2 a 12 = 0 ∧ I2 a 13 = 0) := by
  refine Ct.of (by decide) (ble rfl) [some (.ref a), none] rfl ?_
  intro x C M
  obtain ⟨a0, a1, a2, a3, a4, a5, hS, a15, a16, a17, r0, r1, r2, r3, r4, r5, r6, r7, r8⟩ := id hA
  refine v_aload_n C 0 dLH_clear_0 rfl rfl ?_
  refine v_geti C cfLH (k := 13) (by assumption) rfl w124 dLH_clear_1 ?_
  refine v_istore_n C 1 dLH_clear_4 rfl (ble rfl) rfl ?_
  refine v_aload_n C 0 dLH_clear_5 rfl rfl ?_
  refine v_getr C cfLH (k := 4) (by assumption) rfl (by assumption) w115 dLH_clear_6 ?_
  refine v_iconst C (-1) dLH_clear_9 (by decide) ?_
  refine v_callS C (c_Ar_fill (kl x) (kD x) g I J (-1) a5 (by decide)) mwAr_fill w109 w108 rfl rfl (ble rfl) (ble rfl) (ble rfl) (ble rfl) (ble rfl) dLH_clear_10 ?_
  rintro v g2 I2 J2 ⟨rfl, rfl, rfl, f1, f2⟩
  refine v_aload_n C 0 dLH_clear_13 rfl rfl ?_
  refine v_iconst C 0 dLH_clear_14 (by decide) ?_
  refine v_puti C cfLH (k := 11) (by assumption) rfl w122 rfl rfl rfl dLH_clear_15 ?_
  refine v_aload_n C 0 dLH_clear_18 rfl rfl ?_
  refine v_iconst C 0 dLH_clear_19 (by decide) ?_
  refine v_puti C cfLH (k := 12) (by assumption) rfl w123 rfl rfl rfl dLH_clear_20 ?_
  refine v_aload_n C 0 dLH_clear_23 rfl rfl ?_
  refine v_iconst C 0 dLH_clear_24 (by decide) ?_
  refine v_puti C cfLH (k := 13) (by assumption) rfl w124 rfl rfl rfl dLH_clear_25 ?_
  refine v_aload_n C 0 dLH_clear_28 rfl rfl ?_
  refine v_lconst C 0 dLH_clear_29 (by decide) ?_
  refine v_putl C cfLH (k := 14) (by assumption) rfl w125 rfl rfl rfl dLH_clear_30 ?_
  refine v_aload_n C 0 dLH_clear_33 rfl rfl ?_
  refine v_iconst C 0 dLH_clear_34 (by decide) ?_
  refine v_puti C cfLH (k := 10) (by assumption) rfl w121 rfl (by first | rfl | assumption) (by first | rfl | assumption) dLH_clear_35 ?_
  refine v_iload_n C 1 dLH_clear_38 rfl rfl ?_
  refine v_iret C M dLH_clear_39 (ble rfl) (ble rfl) ⟨rfl, rfl, rfl, fun b b1 b2 => ?_, fun j hj => ?_, ?_, ?_, ?_, ?_⟩
  · rw [s2_off b1, s2_off b1, s2_off b1, s2_off b1]
    exact f1 b b2
  · rw [s2_a (by omega), s2_a (by omega), s2_a (by omega), s2_a (by omega)]
    exact f2 j hj
  · rw [s2_self]
  · rw [s2_k (by decide), s2_k (by decide), s2_k (by decide), s2_self]
  · rw [s2_k (by decide), s2_k (by decide), s2_self]
  · rw [s2_k (by decide), s2_self]
theorem c_LH_lose (l : Launch) (D : va_G) (g : GM) (I : MI) (J : MJ) {a p : Nat} (hA : LHAt g a) (hp : p < 8) (hw : I (a + 5) p ≠ -1) : Ct l yLH_lose bLH_lose 2 none (rmN 2 42) D [.ref a, .int (nI p)] g I J (PF none g (s2 (s2 I (a + 5) p (-1)) a 13 (I a 13 + 1)) J) := by
  refine Ct.of (by decide) (ble rfl) [some (.ref a), some (.int (nI p))] rfl ?_
  intro x C M
  obtain ⟨a0, a1, a2, a3, a4, a5, hS, a15, a16, a17, r0, r1, r2, r3, r4, r5, r6, r7, r8⟩ := id hA
  have hpc : (nI p).toNatClampNeg = p := nI_clamp (by omega)
  have hpi : vp_in (nI p) 8 := vp_in_nI hp (by decide)
  refine v_aload_n C 0 dLH_lose_0 rfl rfl ?_
  refine v_iload_n C 1 dLH_lose_1 rfl rfl ?_
  refine v_cVi C (c_LH_operationOf (kl x) (kD x) g I J hA hp hw) mwLH_operationOf cfLH (by assumption) w516 ws14 w514 rfl rfl (ble rfl) (ble rfl) (ble rfl) (ble rfl) (ble rfl) dLH_lose_2 ?_
  refine v_pop C dLH_lose_5 rfl ?_
  refine v_aload_n C 0 dLH_lose_6 rfl rfl ?_
  refine v_getr C cfLH (k := 4) (by assumption) rfl (by assumption) w115 dLH_lose_7 ?_
  refine v_iload_n C 1 dLH_lose_10 rfl rfl ?_
  refine v_iconst C (-1) dLH_lose_11 (by decide) ?_
  refine v_iast C (by assumption) (by assumption) dLH_lose_12 ?_
  rw [hpc]
  refine v_aload_n C 0 dLH_lose_13 rfl rfl ?_
  refine v_dup C dLH_lose_14 rfl ?_
  refine v_geti C cfLH (k := 13) (by assumption) rfl w124 dLH_lose_15 ?_
  rw [s2_a (show a ≠ a + 5 by omega)]
  refine v_iconst C 1 dLH_lose_18 (by decide) ?_
  refine v_iadd C dLH_lose_19 ?_
  refine v_puti C cfLH (k := 13) (by assumption) rfl w124 rfl rfl rfl dLH_lose_20 ?_
  exact v_vret C M dLH_lose_23 (ble rfl) (ble rfl) (pf_v rfl rfl)
def backI (I : MI) (a u p k9 q pl : Nat) (res : Int32) : MI := endI (s2 (s2 (s2 I (a + 5) p (-1)) a 10 0) a 13 (I a 13 + 1)) u pl k9 res (I a 13 + 1)
theorem c_LH_back (l : Launch) (D : va_G) (g : GM) (I : MI) (J : MJ) {a p q k no u n pl k9 : Nat} (res : Int32) (hA : LHAt g a) (hp : p < 8) (hq : I (a + 5) p = nI q) (hq2 : q < 48) (hno : I a 11 = nI no) (hno2 : no ≤ 6) (how : I (a + 2) q = nI k) (hk : k < no) (hb : g.2.1 (a + 1) k = some u) (hU : SuAt g u) (hau : a + 18 ≤ u) (hpl : I (a + 3) q = nI pl) (hn : I u 6 = nI n) (hn2 : n ≤ 16) (hpn : pl < n) (hk9 : I u 7 = nI k9) (hk92 : k9 < 16) : Ct l yLH_back bLH_back 4 none (rmN 2 43) D [.ref a, .int (nI p), .int res] g I J (PF none g (backI I a u p k9 q pl res) (s2 J a 14 (J a 14 ||| jshl 1 (nI q)))) := by
  refine Ct.of (by decide) (ble rfl) [some (.ref a), some (.int (nI p)), some (.int res), none] rfl ?_
  intro x C M
  obtain ⟨a0, a1, a2, a3, a4, a5, hS, a15, a16, a17, r0, r1, r2, r3, r4, r5, r6, r7, r8⟩ := id hA
  have u0 := hU.1
  have hpc : (nI p).toNatClampNeg = p := nI_clamp (by omega)
  have hpi : vp_in (nI p) 8 := vp_in_nI hp (by decide)
  have hqc : (nI q).toNatClampNeg = q := nI_clamp (by omega)
  have hqi : vp_in (nI q) 48 := vp_in_nI hq2 (by decide)
  have hw : I (a + 5) p ≠ -1 := fun e => by
    have h0 := nI_pos (n := q) (by omega)
    rw [← hq, e] at h0
    exact h0 (by decide)
  refine v_aload_n C 0 dLH_back_0 rfl rfl ?_
  refine v_iload_n C 1 dLH_back_1 rfl rfl ?_
  refine v_cVi C (c_LH_operationOf (kl x) (kD x) g I J hA hp hw) mwLH_operationOf cfLH (by assumption) w516 ws14 w514 rfl rfl (ble rfl) (ble rfl) (ble rfl) (ble rfl) (ble rfl) dLH_back_2 ?_
  rw [hq]
  refine v_istore_n C 3 dLH_back_5 rfl (ble rfl) rfl ?_
  refine v_aload_n C 0 dLH_back_6 rfl rfl ?_
  refine v_getr C cfLH (k := 4) (by assumption) rfl (by assumption) w115 dLH_back_7 ?_
  refine v_iload_n C 1 dLH_back_10 rfl rfl ?_
  refine v_iconst C (-1) dLH_back_11 (by decide) ?_
  refine v_iast C (by assumption) (by assumption) dLH_back_12 ?_
  rw [hpc]
  refine v_aload_n C 0 dLH_back_13 rfl rfl ?_
  refine v_dup C dLH_back_14 rfl ?_
  refine v_getl C cfLH (k := 14) (by assumption) rfl w125 dLH_back_15 ?_
  refine v_lconst C 1 dLH_back_18 (by decide) ?_
  refine v_iload_n C 3 dLH_back_19 rfl rfl ?_
  refine v_lshl C dLH_back_20 ?_
  refine v_lor C dLH_back_21 ?_
  refine v_putl C cfLH (k := 14) (by assumption) rfl w125 rfl rfl rfl dLH_back_22 ?_
  refine v_aload_n C 0 dLH_back_25 rfl rfl ?_
  refine v_iconst C 0 dLH_back_26 (by decide) ?_
  refine v_puti C cfLH (k := 10) (by assumption) rfl w121 rfl (by first | rfl | assumption) (by first | rfl | assumption) dLH_back_27 ?_
  refine v_aload_n C 0 dLH_back_30 rfl rfl ?_
  refine v_dup C dLH_back_31 rfl ?_
  refine v_geti C cfLH (k := 13) (by assumption) rfl w124 dLH_back_32 ?_
  rw [s2_k (show 13 ≠ 10 by decide), s2_a (show a ≠ a + 5 by omega)]
  refine v_iconst C 1 dLH_back_35 (by decide) ?_
  refine v_iadd C dLH_back_36 ?_
  refine v_puti C cfLH (k := 13) (by assumption) rfl w124 rfl rfl rfl dLH_back_37 ?_
  refine v_aload_n C 0 dLH_back_40 rfl rfl ?_
  refine v_aload_n C 0 dLH_back_41 rfl rfl ?_
  refine v_getr C cfLH (k := 1) (by assumption) rfl (by assumption) w112 dLH_back_42 ?_
  refine v_iload_n C 3 dLH_back_45 rfl rfl ?_
  refine v_iald C (by assumption) (by assumption) dLH_back_46 ?_
  rw [hqc, s2_a (show a + 2 ≠ a by omega), s2_a (show a + 2 ≠ a by omega), s2_a (show a + 2 ≠ a + 5 by omega), how]
  refine v_cVr C (c_LH_subjectOf (kl x) (kD x) g _ _ hA (by rw [s2_k (by decide), s2_k (by decide), s2_a (by omega)]; exact hno) hno2 hk hb) mwLH_subjectOf cfLH (by assumption) w171 ws0 w169 rfl rfl (ble rfl) (ble rfl) (ble rfl) (ble rfl) (ble rfl) dLH_back_47 ?_
  refine v_aload_n C 0 dLH_back_50 rfl rfl ?_
  refine v_getr C cfLH (k := 2) (by assumption) rfl (by assumption) w113 dLH_back_51 ?_
  refine v_iload_n C 3 dLH_back_54 rfl rfl ?_
  refine v_iald C (by assumption) (by assumption) dLH_back_55 ?_
  rw [hqc, s2_a (show a + 3 ≠ a by omega), s2_a (show a + 3 ≠ a by omega), s2_a (show a + 3 ≠ a + 5 by omega), hpl]
  refine v_iload_n C 2 dLH_back_56 rfl rfl ?_
  refine v_aload_n C 0 dLH_back_57 rfl rfl ?_
  refine v_geti C cfLH (k := 13) (by assumption) rfl w124 dLH_back_58 ?_
  rw [s2_self]
  refine v_cVv C (c_Su_endOperation (kl x) (kD x) g _ _ res _ hU (by rw [s2_a (by omega), s2_a (by omega), s2_a (by omega)]; exact hn) hn2 hpn (by rw [s2_a (by omega), s2_a (by omega), s2_a (by omega)]; exact hk9) hk92) mwSu_endOperation cfSu (by assumption) w520 w521 w519 rfl rfl (ble rfl) (ble rfl) (ble rfl) (ble rfl) (ble rfl) dLH_back_61 ?_
  exact v_vret C M dLH_back_64 (ble rfl) (ble rfl) (pf_v rfl rfl)
def clI (I : MI) (a u p k n q : Nat) (code va vb : Int32) : MI := s2 (s2 (s2 (addI (s2 (s2 (s2 I (a + 2) q (nI k)) (a + 3) q (nI n)) (a + 5) p (nI q)) u n (nI p) code va vb) a 10 0) a 12 (nI (q + 1))) a 13 (I a 13 + 1)
theorem addI_off {I : MI} {u n b : Nat} {pr code va vb : Int32} (h : b < u ∨ u + 30 ≤ b) (hn : n < 16) : addI I u n pr code va vb b = I b := by
  unfold addI
  rw [s2_off (by omega), s2_off (by omega), s2_off (by omega), s2_off (by omega), s2_off (by omega), s2_off (by omega), s2_off (by omega), s2_off (by omega), s2_off (by omega), s2_off (by omega), s2_off (by omega)]
theorem c_LH_call (l : Launch) (D : va_G) (g : GM) (I : MI) (J : MJ) {a p k no u n q : Nat} (code va vb : Int32) (hA : LHAt g a) (hp : p < 8) (hw : I (a + 5) p = -1) (hno : I a 11 = nI no) (hno2 : no ≤ 6) (hk : k < no) (hb : g.2.1 (a + 1) k = some u) (hU : SuAt g u) (hau : a + 18 ≤ u) (hc0 : ¬ code < 0) (hc1 : code < (if I u 5 = 0 then 5 else 3)) (hq : I a 12 = nI q) (hq2 : q < 48) (hn : I u 6 = nI n) (hn2 : n < 16) : Ct l yLH_call bLH_call 8 (some .int) (rmN 3 68) D [.ref a, .int (nI p), .int (nI k), .int code, .int va, .int vb] g I J (PF (some (.int (nI q))) g (clI I a u p k n q code va vb) (s2 J (a + 4) q (J a 14))) := by
  refine Ct.of (by decide) (ble rfl) [some (.ref a), some (.int (nI p)), some (.int (nI k)), some (.int code), some (.int va), some (.int vb), none, none] rfl ?_
  intro x C M
  obtain ⟨a0, a1, a2, a3, a4, a5, hS, a15, a16, a17, r0, r1, r2, r3, r4, r5, r6, r7, r8⟩ := id hA
  have u0 := hU.1
  have hpc : (nI p).toNatClampNeg = p := nI_clamp (by omega)
  have hpi : vp_in (nI p) 8 := vp_in_nI hp (by decide)
  have hqc : (nI q).toNatClampNeg = q := nI_clamp (by omega)
  have hqi : vp_in (nI q) 48 := vp_in_nI hq2 (by decide)
  refine v_aload_n C 0 dLH_call_0 rfl rfl ?_
  refine v_iload_n C 1 dLH_call_1 rfl rfl ?_
  refine v_cVv C (c_LH_checkProcess (kl x) (kD x) g I J hp) mwLH_checkProcess cfLH (by assumption) w467 ws13 w465 rfl rfl (ble rfl) (ble rfl) (ble rfl) (ble rfl) (ble rfl) dLH_call_2 ?_
  refine v_aload_n C 0 dLH_call_5 rfl rfl ?_
  refine v_iload_n C 2 dLH_call_6 rfl rfl ?_
  refine v_cVr C (c_LH_subjectOf (kl x) (kD x) g I J hA hno hno2 hk hb) mwLH_subjectOf cfLH (by assumption) w171 ws0 w169 rfl rfl (ble rfl) (ble rfl) (ble rfl) (ble rfl) (ble rfl) dLH_call_7 ?_
  refine v_astore C dLH_call_10 (ble rfl) rfl ?_
  refine v_iload_n C 3 dLH_call_12 rfl rfl ?_
  refine v_if_lt C 25 dLH_call_13 (by decide) (fun h => absurd h hc0) (fun _ => ?_)
  refine v_iload_n C 3 dLH_call_16 rfl rfl ?_
  refine v_aload C dLH_call_17 rfl ?_
  refine v_cVi C (c_Su_operationsOfKind (kl x) (kD x) g I J u0) mwSu_operationsOfKind cfSu (by assumption) w471 w472 w470 rfl rfl (ble rfl) (ble rfl) (ble rfl) (ble rfl) (ble rfl) dLH_call_19 ?_
  refine v_icmp_lt C 35 dLH_call_22 (by decide) (fun _ => ?_) (fun h => absurd hc1 h)
  refine v_aload_n C 0 dLH_call_35 rfl rfl ?_
  refine v_getr C cfLH (k := 4) (by assumption) rfl (by assumption) w115 dLH_call_36 ?_
  refine v_iload_n C 1 dLH_call_39 rfl rfl ?_
  refine v_iald C (by assumption) (by assumption) dLH_call_40 ?_
  rw [hpc, hw]
  refine v_iconst C (-1) dLH_call_41 (by decide) ?_
  refine v_icmp_eq C 55 dLH_call_42 (by decide) (fun _ => ?_) (fun h => absurd rfl h)
  refine v_aload_n C 0 dLH_call_55 rfl rfl ?_
  refine v_geti C cfLH (k := 12) (by assumption) rfl w123 dLH_call_56 ?_
  rw [hq]
  refine v_bipush C 48 dLH_call_59 (by decide) ?_
  refine v_icmp_ge C 74 dLH_call_61 (by decide) (fun h => absurd h (nI_ge (b := 48) hq2 (by decide))) (fun _ => ?_)
  refine v_aload C dLH_call_64 rfl ?_
  refine v_geti C cfSu (k := 6) (by assumption) rfl w394 dLH_call_66 ?_
  rw [hn]
  refine v_bipush C 16 dLH_call_69 (by decide) ?_
  refine v_icmp_lt C 76 dLH_call_71 (by decide) (fun _ => ?_) (fun h => absurd (nI_lt (b := 16) hn2 (by decide)) h)
  refine v_aload_n C 0 dLH_call_76 rfl rfl ?_
  refine v_geti C cfLH (k := 12) (by assumption) rfl w123 dLH_call_77 ?_
  rw [hq]
  refine v_istore C dLH_call_80 (ble rfl) rfl ?_
  refine v_aload_n C 0 dLH_call_82 rfl rfl ?_
  refine v_getr C cfLH (k := 1) (by assumption) rfl (by assumption) w112 dLH_call_83 ?_
  refine v_iload C dLH_call_86 rfl ?_
  refine v_iload_n C 2 dLH_call_88 rfl rfl ?_
  refine v_iast C (by assumption) (by assumption) dLH_call_89 ?_
  rw [hqc]
  refine v_aload_n C 0 dLH_call_90 rfl rfl ?_
  refine v_getr C cfLH (k := 2) (by assumption) rfl (by assumption) w113 dLH_call_91 ?_
  refine v_iload C dLH_call_94 rfl ?_
  refine v_aload C dLH_call_96 rfl ?_
  refine v_geti C cfSu (k := 6) (by assumption) rfl w394 dLH_call_98 ?_
  rw [s2_a (show u ≠ a + 2 by omega), hn]
  refine v_iast C (by assumption) (by assumption) dLH_call_101 ?_
  rw [hqc]
  refine v_aload_n C 0 dLH_call_102 rfl rfl ?_
  refine v_getr C cfLH (k := 3) (by assumption) rfl (by assumption) w114 dLH_call_103 ?_
  refine v_iload C dLH_call_106 rfl ?_
  refine v_aload_n C 0 dLH_call_108 rfl rfl ?_
  refine v_getl C cfLH (k := 14) (by assumption) rfl w125 dLH_call_109 ?_
  refine v_last C (by assumption) (by assumption) dLH_call_112 ?_
  rw [hqc]
  refine v_aload_n C 0 dLH_call_113 rfl rfl ?_
  refine v_getr C cfLH (k := 4) (by assumption) rfl (by assumption) w115 dLH_call_114 ?_
  refine v_iload_n C 1 dLH_call_117 rfl rfl ?_
  refine v_iload C dLH_call_118 rfl ?_
  refine v_iast C (by assumption) (by assumption) dLH_call_120 ?_
  rw [hpc]
  refine v_aload C dLH_call_121 rfl ?_
  refine v_iload_n C 1 dLH_call_123 rfl rfl ?_
  refine v_iload_n C 3 dLH_call_124 rfl rfl ?_
  refine v_iload C dLH_call_125 rfl ?_
  refine v_iload C dLH_call_127 rfl ?_
  refine v_cVv C (c_Su_addOperation (kl x) (kD x) g _ _ (nI p) code va vb hU (by rw [s2_a (by omega), s2_a (by omega), s2_a (by omega)]; exact hn) hn2) mwSu_addOperation cfSu (by assumption) w492 w493 w491 rfl rfl (ble rfl) (ble rfl) (ble rfl) (ble rfl) (ble rfl) dLH_call_129 ?_
  refine v_aload_n C 0 dLH_call_132 rfl rfl ?_
  refine v_iconst C 0 dLH_call_133 (by decide) ?_
  refine v_puti C cfLH (k := 10) (by assumption) rfl w121 rfl (by first | rfl | assumption) (by first | rfl | assumption) dLH_call_134 ?_
  refine v_aload_n C 0 dLH_call_137 rfl rfl ?_
  refine v_dup C dLH_call_138 rfl ?_
  refine v_geti C cfLH (k := 12) (by assumption) rfl w123 dLH_call_139 ?_
  rw [s2_k (show 12 ≠ 10 by decide), addI_off (by omega) hn2, s2_a (show a ≠ a + 5 by omega), s2_a (show a ≠ a + 3 by omega), s2_a (show a ≠ a + 2 by omega), hq]
  refine v_iconst C 1 dLH_call_142 (by decide) ?_
  refine v_iadd C dLH_call_143 ?_
  refine v_puti C cfLH (k := 12) (by assumption) rfl w123 rfl rfl rfl dLH_call_144 ?_
  refine v_aload_n C 0 dLH_call_147 rfl rfl ?_
  refine v_dup C dLH_call_148 rfl ?_
  refine v_geti C cfLH (k := 13) (by assumption) rfl w124 dLH_call_149 ?_
  rw [s2_k (show 13 ≠ 12 by decide), s2_k (show 13 ≠ 10 by decide), addI_off (by omega) hn2, s2_a (show a ≠ a + 5 by omega), s2_a (show a ≠ a + 3 by omega), s2_a (show a ≠ a + 2 by omega)]
  refine v_iconst C 1 dLH_call_152 (by decide) ?_
  refine v_iadd C dLH_call_153 ?_
  refine v_puti C cfLH (k := 13) (by assumption) rfl w124 rfl rfl rfl dLH_call_154 ?_
  refine v_iload C dLH_call_157 rfl ?_
  exact v_iret C M dLH_call_159 (ble rfl) (ble rfl) (pf_i rfl (by rw [nI_1]; rfl) rfl)
/-- no room: 48 operations, or 16 of the object -/
theorem c_LH_call_full (l : Launch) (D : va_G) (g : GM) (I : MI) (J : MJ) {a p k no u n q : Nat} (code va vb : Int32) (hA : LHAt g a) (hp : p < 8) (hw : I (a + 5) p = -1) (hno : I a 11 = nI no) (hno2 : no ≤ 6) (hk : k < no) (hb : g.2.1 (a + 1) k = some u) (hU : SuAt g u) (hc0 : ¬ code < 0) (hc1 : code < (if I u 5 = 0 then 5 else 3)) (hq : I a 12 = nI q) (hq2 : q ≤ 48) (hn : I u 6 = nI n) (hn2 : n ≤ 16) (hf : q = 48 ∨ n = 16) : Ct l yLH_call bLH_call 8 (some .int) (rmN 3 68) D [.ref a, .int (nI p), .int (nI k), .int code, .int va, .int vb] g I J (PF (some (.int (-1))) g I J) := by
  refine Ct.of (by decide) (ble rfl) [some (.ref a), some (.int (nI p)), some (.int (nI k)), some (.int code), some (.int va), some (.int vb), none, none] rfl ?_
  intro x C M
  obtain ⟨a0, a1, a2, a3, a4, a5, hS, a15, a16, a17, r0, r1, r2, r3, r4, r5, r6, r7, r8⟩ := id hA
  have u0 := hU.1
  have hpc : (nI p).toNatClampNeg = p := nI_clamp (by omega)
  have hpi : vp_in (nI p) 8 := vp_in_nI hp (by decide)
  refine v_aload_n C 0 dLH_call_0 rfl rfl ?_
  refine v_iload_n C 1 dLH_call_1 rfl rfl ?_
  refine v_cVv C (c_LH_checkProcess (kl x) (kD x) g I J hp) mwLH_checkProcess cfLH (by assumption) w467 ws13 w465 rfl rfl (ble rfl) (ble rfl) (ble rfl) (ble rfl) (ble rfl) dLH_call_2 ?_
  refine v_aload_n C 0 dLH_call_5 rfl rfl ?_
  refine v_iload_n C 2 dLH_call_6 rfl rfl ?_
  refine v_cVr C (c_LH_subjectOf (kl x) (kD x) g I J hA hno hno2 hk hb) mwLH_subjectOf cfLH (by assumption) w171 ws0 w169 rfl rfl (ble rfl) (ble rfl) (ble rfl) (ble rfl) (ble rfl) dLH_call_7 ?_
  refine v_astore C dLH_call_10 (ble rfl) rfl ?_
  refine v_iload_n C 3 dLH_call_12 rfl rfl ?_
  refine v_if_lt C 25 dLH_call_13 (by decide) (fun h => absurd h hc0) (fun _ => ?_)
  refine v_iload_n C 3 dLH_call_16 rfl rfl ?_
  refine v_aload C dLH_call_17 rfl ?_
  refine v_cVi C (c_Su_operationsOfKind (kl x) (kD x) g I J u0) mwSu_operationsOfKind cfSu (by assumption) w471 w472 w470 rfl rfl (ble rfl) (ble rfl) (ble rfl) (ble rfl) (ble rfl) dLH_call_19 ?_
  refine v_icmp_lt C 35 dLH_call_22 (by decide) (fun _ => ?_) (fun h => absurd hc1 h)
  refine v_aload_n C 0 dLH_call_35 rfl rfl ?_
  refine v_getr C cfLH (k := 4) (by assumption) rfl (by assumption) w115 dLH_call_36 ?_
  refine v_iload_n C 1 dLH_call_39 rfl rfl ?_
  refine v_iald C (by assumption) (by assumption) dLH_call_40 ?_
  rw [hpc, hw]
  refine v_iconst C (-1) dLH_call_41 (by decide) ?_
  refine v_icmp_eq C 55 dLH_call_42 (by decide) (fun _ => ?_) (fun h => absurd rfl h)
  refine v_aload_n C 0 dLH_call_55 rfl rfl ?_
  refine v_geti C cfLH (k := 12) (by assumption) rfl w123 dLH_call_56 ?_
  rw [hq]
  refine v_bipush C 48 dLH_call_59 (by decide) ?_
  by_cases h48 : q = 48
  · refine v_icmp_ge C 74 dLH_call_61 (by decide) (fun _ => ?_) (fun h => absurd (nI_le (a := 48) (by omega) (by omega)) h)
    refine v_iconst C (-1) dLH_call_74 (by decide) ?_
    exact v_iret C M dLH_call_75 (ble rfl) (ble rfl) (pf_i rfl rfl rfl)
  · refine v_icmp_ge C 74 dLH_call_61 (by decide) (fun h => absurd h (nI_ge (b := 48) (by omega) (by decide))) (fun _ => ?_)
    refine v_aload C dLH_call_64 rfl ?_
    refine v_geti C cfSu (k := 6) (by assumption) rfl w394 dLH_call_66 ?_
    rw [hn]
    refine v_bipush C 16 dLH_call_69 (by decide) ?_
    refine v_icmp_lt C 76 dLH_call_71 (by decide) (fun h => absurd h (nI_nlt (b := 16) (by omega) (by omega))) (fun _ => ?_)
    refine v_iconst C (-1) dLH_call_74 (by decide) ?_
    exact v_iret C M dLH_call_75 (ble rfl) (ble rfl) (pf_i rfl rfl rfl)
