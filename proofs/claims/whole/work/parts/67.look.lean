def esum (e : Nat → Bool) (Y : Nat → Int64) : Nat → Int64
  | 0 => 0
  | p + 1 => if e p = true then esum e Y p + Y p else esum e Y p
abbrev smE (e : Nat → Bool) (K : Nat → Int32) (W9 : Nat → Int64) (p q : Nat) : Prop := jis (K q) 16 = jis (K p) 16 ∧ W9 q = W9 p ∧ e q = true
def elst (e : Nat → Bool) (K : Nat → Int32) (W9 : Nat → Int64) : Nat → Nat
  | 0 => 0
  | p + 1 => if e p = true then elst e K W9 p + (if ∀ q, q < p → ¬ smE e K W9 p q then 1 else 0) else elst e K W9 p
theorem elst_le (e : Nat → Bool) (K : Nat → Int32) (W9 : Nat → Int64) : ∀ p, elst e K W9 p ≤ p
  | 0 => Nat.le_refl _
  | p + 1 => by
    have := elst_le e K W9 p
    simp only [elst]
    split
    · split <;> omega
    · omega
abbrev eB (R : Nat → Nat → Int32) (cnt : Nat) (until_ : Int32) (X : XS) : Nat → Bool := fun p => decide (rEnd R cnt until_ (X.2.1 p))
def offK (m k : Nat) (I : MI) (J : MJ) (I2 : MI) (J2 : MJ) : Prop := (∀ b, b ≠ m → b ≠ m + 13 → b ≠ m + 17 → b ≠ m + 18 → b ≠ m + 19 → b ≠ m + 21 → I2 b = I b) ∧ (∀ q, q ≠ 28 → q ≠ 29 → I2 m q = I m q) ∧ (∀ i, i < 2001 * k ∨ 2001 * k + 2000 ≤ i → I2 (m + 13) i = I (m + 13) i) ∧ (∀ j, j ≠ k → I2 (m + 17) j = I (m + 17) j ∧ I2 (m + 18) j = I (m + 18) j ∧ I2 (m + 19) j = I (m + 19) j ∧ I2 (m + 21) j = I (m + 21) j) ∧ (∀ b, b ≠ m → b ≠ m + 14 → b ≠ m + 16 → b ≠ m + 20 → J2 b = J b) ∧ (∀ i, i < 2001 * k ∨ 2001 * k + 2000 ≤ i → J2 (m + 14) i = J (m + 14) i) ∧ ∀ j, j ≠ k → J2 (m + 20) j = J (m + 20) j
/-- what look() has found -/
def rfnd (R : Nat → Nat → Int32) (N : Nat → Nat) (kind : Int32) (cnt : Nat) (until_ : Int32) (m k : Nat) (I : MI) (J : MJ) : Prop :=
  (brun (rstp R N kind cnt until_ 0) cnt = none ∧ I (m + 18) k = -2 ∧ I (m + 19) k = -2 ∧ J (m + 20) k = -2 ∧ I (m + 21) k = -2) ∨
  ∃ X, brun (rstp R N kind cnt until_ 0) cnt = some X ∧ I (m + 18) k = nI X.1 ∧ I (m + 19) k = (if ∀ p, p < X.1 → ¬ rEnd R cnt until_ (X.2.1 p) then 0 else 1) ∧ J (m + 20) k = esum (eB R cnt until_ X) X.2.2.2 X.1 ∧ I (m + 21) k = nI (elst (eB R cnt until_ X) X.2.1 X.2.2.1 X.1) ∧ XR I J m (2001 * k) X
def lookQ (g : GM) (I : MI) (J : MJ) (m k cnt : Nat) (L : Nat → Nat) : Option Value → GM → MI → MJ → Prop := fun v g2 I2 J2 => v = none ∧ g2 = g ∧ (I (m + 17) k ≠ 0 ∧ I2 = I ∧ J2 = J ∨ I (m + 17) k = 0 ∧ I2 (m + 17) k = 1 ∧ offK m k I J I2 J2 ∧ rfnd (rE I m L k) (fun j => L (16 * k + j)) (I (m + 1) k) cnt (I m 15) m k I2 J2)
theorem bpls_le16 {S : SF} (hS : SOK S) {cnt : Nat} (hc : cnt ≤ 16) : ∀ (q f : Nat) (X X2 : XS), X.1 ≤ 2000 → (f < X.1 → BInv f X) → bfs S cnt q f X = some X2 → X2.1 ≤ 2000
  | 0, _, X, X2, h, _, e => by
    have e : some X = some X2 := e
    cases e
    exact h
  | q + 1, f, X, X2, h, hb, e => by
    simp only [bfs] at e
    split at e
    · rename_i hf
      cases hx : bpls S f cnt 0 X with
      | none => rw [hx] at e; cases e
      | some X3 =>
        rw [hx] at e
        obtain ⟨h3, p3⟩ := bpls_BInv hS cnt 0 X X3 (by omega) (hb hf) hf hx
        exact bpls_le16 hS hc q (f + 1) X3 X2 h3.1.1 (fun h => h3.next h) e
    · cases e
      exact h
theorem brun_le {S : SF} (hS : SOK S) {cnt : Nat} (hc : cnt ≤ 16) {X : XS} (e : brun S cnt = some X) : X.1 ≤ 2000 := bpls_le16 hS hc _ _ _ _ (by decide) (fun _ => X0_BInv) e
set_option maxHeartbeats 4000000 in
theorem c_Mo_look (l : Launch) (D : va_G) (g : GM) (I : MI) (J : MJ) {m k cnt : Nat} {L : Nat → Nat} (hM : MoAt g m) (hL : LsOK I m L) (hk : k < 6) (hc : I (m + 2) k = nI cnt) (hc2 : cnt ≤ 16) : Ct l yMo_look bMo_look 7 none (rmN 5 133) D [.ref m, .int (nI k)] g I J (lookQ g I J m k cnt L) := by
  refine Ct.of (by decide) (ble rfl) [some (.ref m), some (.int (nI k)), none, none, none, none, none] rfl ?_
  intro x C M
  obtain ⟨m0, m1, m2, m3, m4, m5, m6, m7, m8, m9, m10, m11, m12, m13, m14, m15, m16, m17, m18, m19, m20, m21, m22, m23, m24, m25, m26, f2, f3, f4, f6, f7, f8, f9, f10, f11, f12, f13, f14, f16, f17, f18, f19, f20, f21, f22, f23, f24, f25, f26, f32, f33, f34⟩ := id hM
  refine v_aload_n C 0 dMo_look_0 rfl rfl ?_
  refine v_getr C cfMo (k := 20) (by assumption) rfl (by assumption) w694 dMo_look_1 ?_
  refine v_iload_n C 1 dMo_look_4 rfl rfl ?_
  refine v_zaldN C (q := (k)) (by assumption) (by first | rfl | (simp only [n16I, n2001I, nI_add, pk_mul, nI_1])) (by omega) (by decide) (rfl) dMo_look_5 ?_
  by_cases h9 : I (m + 17) k = 0
  · rw [h9]
    refine v_if_eq C 10 dMo_look_6 (by decide) (fun _ => ?_) (fun h => absurd rfl h)
    refine v_sipush C 2001 dMo_look_10 (by decide) ?_
    refine v_iload_n C 1 dMo_look_13 rfl rfl ?_
    refine v_imulN C dMo_look_14 ((pk_mul 2001 k)) ?_
    refine v_istore_n C 2 dMo_look_15 rfl (ble rfl) rfl ?_
    refine v_aload_n C 0 dMo_look_16 rfl rfl ?_
    refine v_iload_n C 1 dMo_look_17 rfl rfl ?_
    refine v_iload_n C 2 dMo_look_18 rfl rfl ?_
    refine v_aload_n C 0 dMo_look_19 rfl rfl ?_
    refine v_geti C cfMo (k := 15) (by assumption) rfl w689 dMo_look_20 ?_
    refine v_iconst C 0 dMo_look_23 (by decide) ?_
    refine v_callV C (c_Mo_gather (kl x) (kD x) g I J (base := 2001 * k) (I m 15) 0 hM hL hk (by omega) hc hc2) mwMo_gather cfMo (by assumption) w826 ws26 w824 rfl rfl (ble rfl) (ble rfl) (ble rfl) (ble rfl) (ble rfl) dMo_look_24 ?_
    rintro v g2 I2 J2 ⟨rfl, o, h⟩
    have e15 : I2 m 15 = I m 15 := o.2.1 15 (by decide) (by decide)
    have hL2 : LsOK I2 m L := fun z hz => by rw [o.1 (m + 3) (by omega) (by omega)]; exact hL z hz
    have hcc : I2 (m + 2) k = nI cnt := (congrFun (o.1 (m + 2) (by omega) (by omega)) _).trans hc
    have eRc : eqR (rE I m L k) (rE I2 m L k) := eqR_mem (fun f h4 h11 => o.1 (m + f) (by omega) (by omega))
    -- the memory behind the first stores
    have ofin : ∀ (z1 z2 z4 : Int32) (z3 : Int64), offK m k I J (s2 (s2 (s2 (s2 I2 (m + 17) k 1) (m + 18) k z1) (m + 19) k z2) (m + 21) k z4) (s2 J2 (m + 20) k z3) := fun z1 z2 z4 z3 => by
      refine ⟨fun b b1 b2 b3 b4 b5 b6 => ?_, fun q q1 q2 => ?_, fun i hi => ?_, fun j hj => ?_, fun b b1 b2 b3 b4 => ?_, fun i hi => ?_, fun j hj => ?_⟩
      · rw [s2_off b6, s2_off b5, s2_off b4, s2_off b3]; exact o.1 b b1 b2
      · rw [s2_a (by omega), s2_a (by omega), s2_a (by omega), s2_a (by omega)]; exact o.2.1 q q1 q2
      · rw [s2_a (by omega), s2_a (by omega), s2_a (by omega), s2_a (by omega)]; exact o.2.2.1 i hi
      · rw [s2_a (show m + 17 ≠ m + 21 by omega), s2_a (show m + 17 ≠ m + 19 by omega), s2_a (show m + 17 ≠ m + 18 by omega), s2_k hj, s2_a (show m + 18 ≠ m + 21 by omega), s2_a (show m + 18 ≠ m + 19 by omega), s2_k hj, s2_a (show m + 18 ≠ m + 17 by omega), s2_a (show m + 19 ≠ m + 21 by omega), s2_k hj, s2_a (show m + 19 ≠ m + 18 by omega), s2_a (show m + 19 ≠ m + 17 by omega), s2_k hj, s2_a (show m + 21 ≠ m + 19 by omega), s2_a (show m + 21 ≠ m + 18 by omega), s2_a (show m + 21 ≠ m + 17 by omega), o.1 (m + 17) (by omega) (by omega), o.1 (m + 18) (by omega) (by omega), o.1 (m + 19) (by omega) (by omega), o.1 (m + 21) (by omega) (by omega)]
        exact ⟨rfl, rfl, rfl, rfl⟩
      · rw [s2_off b4]; exact o.2.2.2.1 b b1 b2 b3
      · rw [s2_a (by omega)]; exact o.2.2.2.2 i hi
      · rw [s2_k hj, o.2.2.2.1 (m + 20) (by omega) (by omega) (by omega)]
    have r17 : ∀ (z1 z2 z4 : Int32), (s2 (s2 (s2 (s2 I2 (m + 17) k 1) (m + 18) k z1) (m + 19) k z2) (m + 21) k z4) (m + 17) k = 1 := fun z1 z2 z4 => by
      rw [s2_a (by omega), s2_a (by omega), s2_a (by omega), s2_self]
    have r18 : ∀ (z1 z2 z4 : Int32), (s2 (s2 (s2 (s2 I2 (m + 17) k 1) (m + 18) k z1) (m + 19) k z2) (m + 21) k z4) (m + 18) k = z1 := fun z1 z2 z4 => by
      rw [s2_a (by omega), s2_a (by omega), s2_self]
    have r19 : ∀ (z1 z2 z4 : Int32), (s2 (s2 (s2 (s2 I2 (m + 17) k 1) (m + 18) k z1) (m + 19) k z2) (m + 21) k z4) (m + 19) k = z2 := fun z1 z2 z4 => by
      rw [s2_a (by omega), s2_self]
    have r13 : ∀ (z1 z2 z4 : Int32) (i : Nat), (s2 (s2 (s2 (s2 I2 (m + 17) k 1) (m + 18) k z1) (m + 19) k z2) (m + 21) k z4) (m + 13) i = I2 (m + 13) i := fun z1 z2 z4 i => by
      rw [s2_a (by omega), s2_a (by omega), s2_a (by omega), s2_a (by omega)]
    have rb : ∀ (z1 z2 z4 : Int32) (b : Nat), b < m + 17 → (s2 (s2 (s2 (s2 I2 (m + 17) k 1) (m + 18) k z1) (m + 19) k z2) (m + 21) k z4) b = I2 b := fun z1 z2 z4 b hb => by
      rw [s2_off (by omega), s2_off (by omega), s2_off (by omega), s2_off (by omega)]
    rcases h with ⟨h, rfl⟩ | ⟨X, h, rfl, xr, xw⟩
    · refine v_istore_n C 3 dMo_look_27 rfl (ble rfl) rfl ?_
      refine v_aload_n C 0 dMo_look_28 rfl rfl ?_
      refine v_getr C cfMo (k := 20) (by assumption) rfl (by assumption) w694 dMo_look_29 ?_
      refine v_iload_n C 1 dMo_look_32 rfl rfl ?_
      refine v_iconst C 1 dMo_look_33 (by decide) ?_
      refine v_zastN C (q := (k)) (by assumption) (by first | rfl | (simp only [n16I, n2001I, nI_add, pk_mul, nI_1])) (by omega) (by decide) (by first | exact Or.inl rfl | exact Or.inr rfl | assumption) dMo_look_34 ?_
      refine v_aload_n C 0 dMo_look_35 rfl rfl ?_
      refine v_getr C cfMo (k := 21) (by assumption) rfl (by assumption) w695 dMo_look_36 ?_
      refine v_iload_n C 1 dMo_look_39 rfl rfl ?_
      refine v_iload_n C 3 dMo_look_40 rfl rfl ?_
      refine v_iastN C (q := (k)) (by assumption) (by first | rfl | (simp only [n16I, n2001I, nI_add, pk_mul, nI_1])) (by omega) (by decide) dMo_look_41 ?_
      refine v_aload_n C 0 dMo_look_42 rfl rfl ?_
      refine v_getr C cfMo (k := 22) (by assumption) rfl (by assumption) w696 dMo_look_43 ?_
      refine v_iload_n C 1 dMo_look_46 rfl rfl ?_
      refine v_aload_n C 0 dMo_look_47 rfl rfl ?_
      refine v_iload_n C 1 dMo_look_48 rfl rfl ?_
      refine v_iload_n C 2 dMo_look_49 rfl rfl ?_
      refine v_iload_n C 3 dMo_look_50 rfl rfl ?_
      refine v_aload_n C 0 dMo_look_51 rfl rfl ?_
      refine v_getiN C cfMo (k := 15) (by assumption) rfl w689 dMo_look_52 ((show _ = I m 15 by rw [s2_a (by omega), s2_a (by omega)]; exact e15)) ?_
      refine v_cVi C (c_Mo_judgeOf_many (kl x) (kD x) _ _ J2 (nI k) (nI (2001 * k)) (I m 15)) mwMo_judgeOf cfMo (by assumption) w882 ws38 w880 rfl rfl (ble rfl) (ble rfl) (ble rfl) (ble rfl) (ble rfl) dMo_look_55 ?_
      refine v_iastN C (q := (k)) (by assumption) (by first | rfl | (simp only [n16I, n2001I, nI_add, pk_mul, nI_1])) (by omega) (by decide) dMo_look_58 ?_
      refine v_aload_n C 0 dMo_look_59 rfl rfl ?_
      refine v_getr C cfMo (k := 23) (by assumption) rfl (by assumption) w697 dMo_look_60 ?_
      refine v_iload_n C 1 dMo_look_63 rfl rfl ?_
      refine v_iload_n C 3 dMo_look_64 rfl rfl ?_
      refine v_bipush C (-2) dMo_look_65 (by decide) ?_
      refine v_icmp_ne C 76 dMo_look_67 (by decide) (fun h => absurd rfl h) (fun _ => ?_)
      refine v_ldc2 C w888 dMo_look_70 ?_
      refine v_goto C 77 dMo_look_73 (by decide) ?_
      refine v_lastN C (q := (k)) (by assumption) (by first | rfl | (simp only [n16I, n2001I, nI_add, pk_mul, nI_1])) (by omega) (by decide) dMo_look_77 ?_
      refine v_aload_n C 0 dMo_look_78 rfl rfl ?_
      refine v_getr C cfMo (k := 24) (by assumption) rfl (by assumption) w698 dMo_look_79 ?_
      refine v_iload_n C 1 dMo_look_82 rfl rfl ?_
      refine v_iload_n C 3 dMo_look_83 rfl rfl ?_
      refine v_bipush C (-2) dMo_look_84 (by decide) ?_
      refine v_icmp_ne C 94 dMo_look_86 (by decide) (fun h => absurd rfl h) (fun _ => ?_)
      refine v_bipush C (-2) dMo_look_89 (by decide) ?_
      refine v_goto C 95 dMo_look_91 (by decide) ?_
      refine v_iastN C (q := (k)) (by assumption) (by first | rfl | (simp only [n16I, n2001I, nI_add, pk_mul, nI_1])) (by omega) (by decide) dMo_look_95 ?_
      refine v_iconst C 0 dMo_look_96 (by decide) ?_
      refine v_istore C dMo_look_97 (ble rfl) rfl ?_
      refine v_iload C dMo_look_99 rfl ?_
      refine v_iload_n C 3 dMo_look_101 rfl rfl ?_
      refine v_icmp_ge C 258 dMo_look_102 (by decide) (fun _ => ?_) (fun h => absurd (by decide) h)
      refine v_vret C M dMo_look_258 (ble rfl) (ble rfl) ⟨rfl, rfl, Or.inr ⟨h9, r17 _ _ _, ofin _ _ _ _, Or.inl ⟨h, r18 _ _ _, r19 _ _ _, s2_self _ _ _ _, s2_self _ _ _ _⟩⟩⟩
    · have hX2 : X.1 ≤ 2000 := brun_le (rstp_SOK _ _ _ _ _ _) hc2 h
      have o1 : ∀ b, b ≠ m + 17 → b ≠ m + 18 → (s2 (s2 I2 (m + 17) k 1) (m + 18) k (nI X.1)) b = I2 b := fun b b1 b2 => by rw [s2_off b2, s2_off b1]
      have eRd : eqR (rE I2 m L k) (rE (s2 (s2 I2 (m + 17) k 1) (m + 18) k (nI X.1)) m L k) := eqR_mem (fun f h4 h11 => o1 (m + f) (by omega) (by omega))
      refine v_istore_n C 3 dMo_look_27 rfl (ble rfl) rfl ?_
      refine v_aload_n C 0 dMo_look_28 rfl rfl ?_
      refine v_getr C cfMo (k := 20) (by assumption) rfl (by assumption) w694 dMo_look_29 ?_
      refine v_iload_n C 1 dMo_look_32 rfl rfl ?_
      refine v_iconst C 1 dMo_look_33 (by decide) ?_
      refine v_zastN C (q := (k)) (by assumption) (by first | rfl | (simp only [n16I, n2001I, nI_add, pk_mul, nI_1])) (by omega) (by decide) (by first | exact Or.inl rfl | exact Or.inr rfl | assumption) dMo_look_34 ?_
      refine v_aload_n C 0 dMo_look_35 rfl rfl ?_
      refine v_getr C cfMo (k := 21) (by assumption) rfl (by assumption) w695 dMo_look_36 ?_
      refine v_iload_n C 1 dMo_look_39 rfl rfl ?_
      refine v_iload_n C 3 dMo_look_40 rfl rfl ?_
      refine v_iastN C (q := (k)) (by assumption) (by first | rfl | (simp only [n16I, n2001I, nI_add, pk_mul, nI_1])) (by omega) (by decide) dMo_look_41 ?_
      refine v_aload_n C 0 dMo_look_42 rfl rfl ?_
      refine v_getr C cfMo (k := 22) (by assumption) rfl (by assumption) w696 dMo_look_43 ?_
      refine v_iload_n C 1 dMo_look_46 rfl rfl ?_
      refine v_aload_n C 0 dMo_look_47 rfl rfl ?_
      refine v_iload_n C 1 dMo_look_48 rfl rfl ?_
      refine v_iload_n C 2 dMo_look_49 rfl rfl ?_
      refine v_iload_n C 3 dMo_look_50 rfl rfl ?_
      refine v_aload_n C 0 dMo_look_51 rfl rfl ?_
      refine v_getiN C cfMo (k := 15) (by assumption) rfl w689 dMo_look_52 ((show _ = I m 15 by rw [s2_a (by omega), s2_a (by omega)]; exact e15)) ?_
      refine v_cVi C (c_Mo_judgeOf (kl x) (kD x) _ _ J2 (cnt := cnt) (L := L) (I m 15) hM (fun z hz => by rw [o1 _ (by omega) (by omega)]; exact hL2 z hz) hk (by omega) (by rw [o1 _ (by omega) (by omega)]; exact hcc) hc2) mwMo_judgeOf cfMo (by assumption) w882 ws38 w880 rfl rfl (ble rfl) (ble rfl) (ble rfl) (ble rfl) (ble rfl) dMo_look_55 ?_
      have ej : (if ∀ p, p < X.1 → ¬ rEnd (rE (s2 (s2 I2 (m + 17) k 1) (m + 18) k (nI X.1)) m L k) cnt (I m 15) (s2 (s2 I2 (m + 17) k 1) (m + 18) k (nI X.1) (m + 13) (2001 * k + p)) then (0 : Int32) else 1) = (if ∀ p, p < X.1 → ¬ rEnd (rE I m L k) cnt (I m 15) (X.2.1 p) then 0 else 1) := by
        have eq : ∀ p, p < X.1 → (rEnd (rE (s2 (s2 I2 (m + 17) k 1) (m + 18) k (nI X.1)) m L k) cnt (I m 15) (s2 (s2 I2 (m + 17) k 1) (m + 18) k (nI X.1) (m + 13) (2001 * k + p)) ↔ rEnd (rE I m L k) cnt (I m 15) (X.2.1 p)) := fun p hp => by
          rw [o1 (m + 13) (by omega) (by omega), (xr p hp).1]
          exact (rEnd_congr eRd).trans (rEnd_congr eRc)
        by_cases hq : ∀ p, p < X.1 → ¬ rEnd (rE I m L k) cnt (I m 15) (X.2.1 p)
        · rw [if_pos hq, if_pos (fun p hp hz => hq p hp ((eq p hp).mp hz))]
        · rw [if_neg hq, if_neg (fun hz => hq (fun p hp hy => hz p hp ((eq p hp).mpr hy)))]
      rw [ej]
      have hne : ¬ nI X.1 = -2 := fun e => by have h0 := nI_pos (n := X.1) (by omega); rw [e] at h0; exact h0 (by decide)
      refine v_iastN C (q := (k)) (by assumption) (by first | rfl | (simp only [n16I, n2001I, nI_add, pk_mul, nI_1])) (by omega) (by decide) dMo_look_58 ?_
      refine v_aload_n C 0 dMo_look_59 rfl rfl ?_
      refine v_getr C cfMo (k := 23) (by assumption) rfl (by assumption) w697 dMo_look_60 ?_
      refine v_iload_n C 1 dMo_look_63 rfl rfl ?_
      refine v_iload_n C 3 dMo_look_64 rfl rfl ?_
      refine v_bipush C (-2) dMo_look_65 (by decide) ?_
      refine v_icmp_ne C 76 dMo_look_67 (by decide) (fun _ => ?_) (fun h => absurd h hne)
      refine v_lconst C 0 dMo_look_76 (by decide) ?_
      refine v_lastN C (q := (k)) (by assumption) (by first | rfl | (simp only [n16I, n2001I, nI_add, pk_mul, nI_1])) (by omega) (by decide) dMo_look_77 ?_
      refine v_aload_n C 0 dMo_look_78 rfl rfl ?_
      refine v_getr C cfMo (k := 24) (by assumption) rfl (by assumption) w698 dMo_look_79 ?_
      refine v_iload_n C 1 dMo_look_82 rfl rfl ?_
      refine v_iload_n C 3 dMo_look_83 rfl rfl ?_
      refine v_bipush C (-2) dMo_look_84 (by decide) ?_
      refine v_icmp_ne C 94 dMo_look_86 (by decide) (fun _ => ?_) (fun h => absurd h hne)
      refine v_iconst C 0 dMo_look_94 (by decide) ?_
      refine v_iastN C (q := (k)) (by assumption) (by first | rfl | (simp only [n16I, n2001I, nI_add, pk_mul, nI_1])) (by omega) (by decide) dMo_look_95 ?_
      refine v_iconst C 0 dMo_look_96 (by decide) ?_
      refine v_istore C dMo_look_97 (ble rfl) rfl ?_
      generalize ejd : (if ∀ p, p < X.1 → ¬ rEnd (rE I m L k) cnt (I m 15) (X.2.1 p) then (0 : Int32) else 1) = jd
      have eIE : ∀ z, eqR (rE I m L k) (rE (s2 (s2 (s2 (s2 I2 (m + 17) k 1) (m + 18) k (nI X.1)) (m + 19) k jd) (m + 21) k z) m L k) := fun z => eqR_mem (fun f h4 h11 => (rb _ _ z (m + f) (by omega)).trans (o.1 (m + f) (by omega) (by omega)))
      have eEnd : ∀ z p, p < X.1 → (if rEnd (rE (s2 (s2 (s2 (s2 I2 (m + 17) k 1) (m + 18) k (nI X.1)) (m + 19) k jd) (m + 21) k z) m L k) cnt (I m 15) ((s2 (s2 (s2 (s2 I2 (m + 17) k 1) (m + 18) k (nI X.1)) (m + 19) k jd) (m + 21) k z) (m + 13) (2001 * k + p)) then (1 : Int32) else 0) = if eB (rE I m L k) cnt (I m 15) X p = true then 1 else 0 := fun z p hp => by
        rw [r13, (xr p hp).1]
        by_cases hq : rEnd (rE I m L k) cnt (I m 15) (X.2.1 p)
        · rw [if_pos ((rEnd_congr (eIE z)).mpr hq), if_pos (decide_eq_true hq)]
        · rw [if_neg (fun h => hq ((rEnd_congr (eIE z)).mp h)), if_neg (fun h => hq (of_decide_eq_true h))]
      have eCt : ∀ z : Int32, (s2 (s2 (s2 (s2 I2 (m + 17) k 1) (m + 18) k (nI X.1)) (m + 19) k jd) (m + 21) k z) (m + 2) k = nI cnt := fun z => by rw [rb _ _ _ (m + 2) (by omega)]; exact hcc
      have eLs : ∀ z : Int32, LsOK (s2 (s2 (s2 (s2 I2 (m + 17) k 1) (m + 18) k (nI X.1)) (m + 19) k jd) (m + 21) k z) m L := fun z q hq => by rw [rb _ _ _ (m + 3) (by omega)]; exact hL2 q hq
      have e15z : ∀ z : Int32, (s2 (s2 (s2 (s2 I2 (m + 17) k 1) (m + 18) k (nI X.1)) (m + 19) k jd) (m + 21) k z) m 15 = I m 15 := fun z => by rw [rb _ _ _ m (by omega)]; exact e15
      have eK : ∀ (z : Int32) (q : Nat), q < X.1 → (s2 (s2 (s2 (s2 I2 (m + 17) k 1) (m + 18) k (nI X.1)) (m + 19) k jd) (m + 21) k z) (m + 13) (2001 * k + q) = X.2.1 q := fun z q hq => by rw [r13]; exact (xr q hq).1
      have eW : ∀ (y : Int64) (q : Nat), q < X.1 → s2 J2 (m + 20) k y (m + 14) (2001 * k + q) = X.2.2.1 q := fun y q hq => by rw [s2_a (by omega)]; exact (xr q hq).2
      have eY : ∀ (y : Int64) (q : Nat), q < X.1 → s2 J2 (m + 20) k y (m + 16) q = X.2.2.2 q := fun y q hq => by rw [s2_a (by omega)]; exact xw q hq
      have loop : ∀ (q p : Nat) (z5 z6 : Option Value), p + q = X.1 → V x g2 0 0 (s2 (s2 (s2 (s2 I2 (m + 17) k 1) (m + 18) k (nI X.1)) (m + 19) k jd) (m + 21) k (nI (elst (eB (rE I m L k) cnt (I m 15) X) X.2.1 X.2.2.1 p))) (s2 J2 (m + 20) k (esum (eB (rE I m L k) cnt (I m 15) X) X.2.2.2 p)) 99 [some (.ref m), some (.int (nI k)), some (.int (nI (2001 * k))), some (.int (nI X.1)), some (.int (nI p)), z5, z6] [] := by
        intro q
        induction q with
        | zero =>
          intro p z5 z6 h1
          refine v_iload C dMo_look_99 rfl ?_
          refine v_iload_n C 3 dMo_look_101 rfl rfl ?_
          refine v_icmp_ge C 258 dMo_look_102 (by decide) (fun _ => ?_) (fun h => absurd (nI_le (by omega) (by omega)) h)
          have hp : p = X.1 := by omega
          rw [hp]
          exact v_vret C M dMo_look_258 (ble rfl) (ble rfl) ⟨rfl, rfl, Or.inr ⟨h9, r17 _ _ _, ofin _ _ _ _, Or.inr ⟨X, h, r18 _ _ _, (r19 _ _ _).trans ejd.symm, s2_self _ _ _ _, s2_self _ _ _ _, fun i hi => ⟨eK _ i hi, eW _ i hi⟩⟩⟩⟩
        | succ q ih =>
          intro p z5 z6 h1
          have hp : p < X.1 := by omega
          refine v_iload C dMo_look_99 rfl ?_
          refine v_iload_n C 3 dMo_look_101 rfl rfl ?_
          refine v_icmp_ge C 258 dMo_look_102 (by decide) (fun h => absurd h (nI_ge hp (by omega))) (fun _ => ?_)
          refine v_aload_n C 0 dMo_look_105 rfl rfl ?_
          refine v_iload_n C 1 dMo_look_106 rfl rfl ?_
          refine v_iload_n C 2 dMo_look_107 rfl rfl ?_
          refine v_iload C dMo_look_108 rfl ?_
          refine v_iaddN C dMo_look_110 ((nI_add _ _)) ?_
          refine v_aload_n C 0 dMo_look_111 rfl rfl ?_
          refine v_getiN C cfMo (k := 15) (by assumption) rfl w689 dMo_look_112 ((e15z _)) ?_
          refine v_cVi C (c_Mo_isEnd (kl x) (kD x) _ _ _ (cnt := cnt) (L := L) (I m 15) hM (eLs _) hk (by omega) (eCt _) hc2) mwMo_isEnd cfMo (by assumption) w886 ws39 w884 rfl rfl (ble rfl) (ble rfl) (ble rfl) (ble rfl) (ble rfl) dMo_look_115 ?_
          rw [eEnd _ p hp]
          by_cases hE : eB (rE I m L k) cnt (I m 15) X p = true
          · rw [if_pos hE]
            refine v_if_eq C 252 dMo_look_118 (by decide) (fun h => absurd h (by decide)) (fun _ => ?_)
            refine v_aload_n C 0 dMo_look_121 rfl rfl ?_
            refine v_getr C cfMo (k := 23) (by assumption) rfl (by assumption) w697 dMo_look_122 ?_
            refine v_iload_n C 1 dMo_look_125 rfl rfl ?_
            first | refine v_dup2_11 C dMo_look_126 rfl rfl ?_ | refine v_dup2_2 C dMo_look_126 rfl ?_
            refine v_laldN C (q := (k)) (by assumption) (by first | rfl | (simp only [n16I, n2001I, nI_add, pk_mul, nI_1])) (by omega) (by decide) ((s2_self _ _ _ _)) dMo_look_127 ?_
            refine v_aload_n C 0 dMo_look_128 rfl rfl ?_
            refine v_getr C cfMo (k := 19) (by assumption) rfl (by assumption) w693 dMo_look_129 ?_
            refine v_iload C dMo_look_132 rfl ?_
            refine v_laldN C (q := (p)) (by assumption) (by first | rfl | (simp only [n16I, n2001I, nI_add, pk_mul, nI_1])) (by omega) (by decide) ((eY _ p hp)) dMo_look_134 ?_
            refine v_ladd C dMo_look_135 ?_
            refine v_lastN C (q := (k)) (by assumption) (by first | rfl | (simp only [n16I, n2001I, nI_add, pk_mul, nI_1])) (by omega) (by decide) dMo_look_136 ?_
            refine v_iconst C 0 dMo_look_137 (by decide) ?_
            refine v_istore C dMo_look_138 (ble rfl) rfl ?_
            refine v_iconst C 0 dMo_look_140 (by decide) ?_
            refine v_istore C dMo_look_141 (ble rfl) rfl ?_
            rw [s2_s2]
            have fin : ∀ (same : Int32) (z6 : Option Value), (same = 0 ∧ (∀ z, z < p → ¬ smE (eB (rE I m L k) cnt (I m 15) X) X.2.1 X.2.2.1 p z) ∨ same = 1 ∧ ¬ ∀ z, z < p → ¬ smE (eB (rE I m L k) cnt (I m 15) X) X.2.1 X.2.2.1 p z) → V x g2 0 0 (s2 (s2 (s2 (s2 I2 (m + 17) k 1) (m + 18) k (nI X.1)) (m + 19) k jd) (m + 21) k (nI (elst (eB (rE I m L k) cnt (I m 15) X) X.2.1 X.2.2.1 p))) (s2 J2 (m + 20) k (esum (eB (rE I m L k) cnt (I m 15) X) X.2.2.2 p + X.2.2.2 p)) 233 [some (.ref m), some (.int (nI k)), some (.int (nI (2001 * k))), some (.int (nI X.1)), some (.int (nI p)), some (.int same), z6] [] := by
              intro same z6 hs
              have nxt : ∀ a : Int32, a = nI (elst (eB (rE I m L k) cnt (I m 15) X) X.2.1 X.2.2.1 (p + 1)) → V x g2 0 0 (s2 (s2 (s2 (s2 I2 (m + 17) k 1) (m + 18) k (nI X.1)) (m + 19) k jd) (m + 21) k a) (s2 J2 (m + 20) k (esum (eB (rE I m L k) cnt (I m 15) X) X.2.2.2 p + X.2.2.2 p)) 252 [some (.ref m), some (.int (nI k)), some (.int (nI (2001 * k))), some (.int (nI X.1)), some (.int (nI p)), some (.int same), z6] [] := by
                intro a ea
                refine v_iinc C (nI (p + 1)) dMo_look_252 rfl (nI_1 p) (ble rfl) rfl ?_
                refine v_goto C 99 dMo_look_255 (by decide) ?_
                rw [ea]
                have es : esum (eB (rE I m L k) cnt (I m 15) X) X.2.2.2 (p + 1) = esum (eB (rE I m L k) cnt (I m 15) X) X.2.2.2 p + X.2.2.2 p := by
                  simp only [esum]
                  rw [if_pos hE]
                rw [← es]
                exact ih (p + 1) _ _ (by omega)
              rcases hs with ⟨rfl, hs⟩ | ⟨rfl, hs⟩
              · refine v_aload_n C 0 dMo_look_233 rfl rfl ?_
                refine v_getr C cfMo (k := 24) (by assumption) rfl (by assumption) w698 dMo_look_234 ?_
                refine v_iload_n C 1 dMo_look_237 rfl rfl ?_
                first | refine v_dup2_11 C dMo_look_238 rfl rfl ?_ | refine v_dup2_2 C dMo_look_238 rfl ?_
                refine v_ialdN C (q := (k)) (by assumption) (by first | rfl | (simp only [n16I, n2001I, nI_add, pk_mul, nI_1])) (by omega) (by decide) ((s2_self _ _ _ _)) dMo_look_239 ?_
                refine v_iload C dMo_look_240 rfl ?_
                refine v_if_eq C 249 dMo_look_242 (by decide) (fun _ => ?_) (fun h => absurd rfl h)
                refine v_iconst C 1 dMo_look_249 (by decide) ?_
                refine v_iaddN C dMo_look_250 ((nI_1 _)) ?_
                refine v_iastN C (q := (k)) (by assumption) (by first | rfl | (simp only [n16I, n2001I, nI_add, pk_mul, nI_1])) (by omega) (by decide) dMo_look_251 ?_
                rw [s2_s2]
                refine nxt _ ?_
                simp only [elst]
                rw [if_pos hE, if_pos hs]
              · refine v_aload_n C 0 dMo_look_233 rfl rfl ?_
                refine v_getr C cfMo (k := 24) (by assumption) rfl (by assumption) w698 dMo_look_234 ?_
                refine v_iload_n C 1 dMo_look_237 rfl rfl ?_
                first | refine v_dup2_11 C dMo_look_238 rfl rfl ?_ | refine v_dup2_2 C dMo_look_238 rfl ?_
                refine v_ialdN C (q := (k)) (by assumption) (by first | rfl | (simp only [n16I, n2001I, nI_add, pk_mul, nI_1])) (by omega) (by decide) ((s2_self _ _ _ _)) dMo_look_239 ?_
                refine v_iload C dMo_look_240 rfl ?_
                refine v_if_eq C 249 dMo_look_242 (by decide) (fun h => absurd h (by decide)) (fun _ => ?_)
                refine v_iconst C 0 dMo_look_245 (by decide) ?_
                refine v_goto C 250 dMo_look_246 (by decide) ?_
                refine v_iaddN C dMo_look_250 ((nI_add _ 0)) ?_
                refine v_iastN C (q := (k)) (by assumption) (by first | rfl | (simp only [n16I, n2001I, nI_add, pk_mul, nI_1])) (by omega) (by decide) dMo_look_251 ?_
                rw [s2_s2]
                refine nxt _ ?_
                simp only [elst]
                rw [if_pos hE, if_neg hs]
            have scan : ∀ (n z : Nat) (same : Int32), z + n = p → (same = 0 ∧ (∀ y, y < z → ¬ smE (eB (rE I m L k) cnt (I m 15) X) X.2.1 X.2.2.1 p y) ∨ same = 1 ∧ ¬ ∀ y, y < p → ¬ smE (eB (rE I m L k) cnt (I m 15) X) X.2.1 X.2.2.1 p y) → V x g2 0 0 (s2 (s2 (s2 (s2 I2 (m + 17) k 1) (m + 18) k (nI X.1)) (m + 19) k jd) (m + 21) k (nI (elst (eB (rE I m L k) cnt (I m 15) X) X.2.1 X.2.2.1 p))) (s2 J2 (m + 20) k (esum (eB (rE I m L k) cnt (I m 15) X) X.2.2.2 p + X.2.2.2 p)) 143 [some (.ref m), some (.int (nI k)), some (.int (nI (2001 * k))), some (.int (nI X.1)), some (.int (nI p)), some (.int same), some (.int (nI z))] [] := by
              intro n
              induction n with
              | zero =>
                intro z same h2 hs
                refine v_iload C dMo_look_143 rfl ?_
                refine v_iload C dMo_look_145 rfl ?_
                refine v_icmp_ge C 233 dMo_look_147 (by decide) (fun _ => ?_) (fun h => absurd (nI_le (by omega) (by omega)) h)
                refine fin same _ ?_
                have hz : z = p := by omega
                rw [hz] at hs
                exact hs
              | succ n ihn =>
                intro z same h2 hs
                have hz : z < X.1 := by omega
                refine v_iload C dMo_look_143 rfl ?_
                refine v_iload C dMo_look_145 rfl ?_
                refine v_icmp_ge C 233 dMo_look_147 (by decide) (fun h => absurd h (nI_ge (by omega) (by omega))) (fun _ => ?_)
                rcases hs with ⟨rfl, hs⟩ | ⟨rfl, hs⟩
                · refine v_iload C dMo_look_150 rfl ?_
                  refine v_if_ne C 233 dMo_look_152 (by decide) (fun h => absurd rfl h) (fun _ => ?_)
                  have step : ∀ a : Int32, (a = 0 ∧ ¬ smE (eB (rE I m L k) cnt (I m 15) X) X.2.1 X.2.2.1 p z ∨ a = 1 ∧ smE (eB (rE I m L k) cnt (I m 15) X) X.2.1 X.2.2.1 p z) → V x g2 0 0 (s2 (s2 (s2 (s2 I2 (m + 17) k 1) (m + 18) k (nI X.1)) (m + 19) k jd) (m + 21) k (nI (elst (eB (rE I m L k) cnt (I m 15) X) X.2.1 X.2.2.1 p))) (s2 J2 (m + 20) k (esum (eB (rE I m L k) cnt (I m 15) X) X.2.2.2 p + X.2.2.2 p)) 225 [some (.ref m), some (.int (nI k)), some (.int (nI (2001 * k))), some (.int (nI X.1)), some (.int (nI p)), some (.int 0), some (.int (nI z))] [.int a] := by
                    intro a ha
                    refine v_istore C dMo_look_225 (ble rfl) rfl ?_
                    refine v_iinc C (nI (z + 1)) dMo_look_227 rfl (nI_1 z) (ble rfl) rfl ?_
                    refine v_goto C 143 dMo_look_230 (by decide) ?_
                    refine ihn (z + 1) a (by omega) ?_
                    rcases ha with ⟨rfl, ha⟩ | ⟨rfl, ha⟩
                    · left
                      refine ⟨rfl, fun y hy => ?_⟩
                      rcases Nat.lt_succ_iff_lt_or_eq.mp hy with h | h
                      · exact hs y h
                      · rw [h]; exact ha
                    · right
                      exact ⟨rfl, fun h => h z (by omega) ha⟩
                  have no : ¬ smE (eB (rE I m L k) cnt (I m 15) X) X.2.1 X.2.2.1 p z → V x g2 0 0 (s2 (s2 (s2 (s2 I2 (m + 17) k 1) (m + 18) k (nI X.1)) (m + 19) k jd) (m + 21) k (nI (elst (eB (rE I m L k) cnt (I m 15) X) X.2.1 X.2.2.1 p))) (s2 J2 (m + 20) k (esum (eB (rE I m L k) cnt (I m 15) X) X.2.2.2 p + X.2.2.2 p)) 224 [some (.ref m), some (.int (nI k)), some (.int (nI (2001 * k))), some (.int (nI X.1)), some (.int (nI p)), some (.int 0), some (.int (nI z))] [] := by
                    intro hn
                    refine v_iconst C 0 dMo_look_224 (by decide) ?_
                    exact step 0 (Or.inl ⟨rfl, hn⟩)
                  refine v_aload_n C 0 dMo_look_155 rfl rfl ?_
                  refine v_getr C cfMo (k := 16) (by assumption) rfl (by assumption) w690 dMo_look_156 ?_
                  refine v_iload_n C 2 dMo_look_159 rfl rfl ?_
                  refine v_iload C dMo_look_160 rfl ?_
                  refine v_iaddN C dMo_look_162 ((nI_add _ _)) ?_
                  refine v_ialdN C (q := (2001 * k + z)) (by assumption) (by first | rfl | (simp only [n16I, n2001I, nI_add, pk_mul, nI_1])) (by omega) (by decide) ((eK _ z hz)) dMo_look_163 ?_
                  refine v_bipush C 16 dMo_look_164 (by decide) ?_
                  refine v_ishr C dMo_look_166 ?_
                  refine v_aload_n C 0 dMo_look_167 rfl rfl ?_
                  refine v_getr C cfMo (k := 16) (by assumption) rfl (by assumption) w690 dMo_look_168 ?_
                  refine v_iload_n C 2 dMo_look_171 rfl rfl ?_
                  refine v_iload C dMo_look_172 rfl ?_
                  refine v_iaddN C dMo_look_174 ((nI_add _ _)) ?_
                  refine v_ialdN C (q := (2001 * k + p)) (by assumption) (by first | rfl | (simp only [n16I, n2001I, nI_add, pk_mul, nI_1])) (by omega) (by decide) ((eK _ p hp)) dMo_look_175 ?_
                  refine v_bipush C 16 dMo_look_176 (by decide) ?_
                  refine v_ishr C dMo_look_178 ?_
                  refine v_icmp_ne C 224 dMo_look_179 (by decide) (fun c179 => ?_) (fun c179 => ?_)
                  · exact no (fun h => c179 h.1)
                  · refine v_aload_n C 0 dMo_look_182 rfl rfl ?_
                    refine v_getr C cfMo (k := 17) (by assumption) rfl (by assumption) w691 dMo_look_183 ?_
                    refine v_iload_n C 2 dMo_look_186 rfl rfl ?_
                    refine v_iload C dMo_look_187 rfl ?_
                    refine v_iaddN C dMo_look_189 ((nI_add _ _)) ?_
                    refine v_laldN C (q := (2001 * k + z)) (by assumption) (by first | rfl | (simp only [n16I, n2001I, nI_add, pk_mul, nI_1])) (by omega) (by decide) ((eW _ z hz)) dMo_look_190 ?_
                    refine v_aload_n C 0 dMo_look_191 rfl rfl ?_
                    refine v_getr C cfMo (k := 17) (by assumption) rfl (by assumption) w691 dMo_look_192 ?_
                    refine v_iload_n C 2 dMo_look_195 rfl rfl ?_
                    refine v_iload C dMo_look_196 rfl ?_
                    refine v_iaddN C dMo_look_198 ((nI_add _ _)) ?_
                    refine v_laldN C (q := (2001 * k + p)) (by assumption) (by first | rfl | (simp only [n16I, n2001I, nI_add, pk_mul, nI_1])) (by omega) (by decide) ((eW _ p hp)) dMo_look_199 ?_
                    refine v_lcmp C dMo_look_200 ?_
                    refine v_if_ne C 224 dMo_look_201 (by decide) (fun c201 => ?_) (fun c201 => ?_)
                    · exact no (fun h => c201 (lcmpE.mpr h.2.1))
                    · refine v_aload_n C 0 dMo_look_204 rfl rfl ?_
                      refine v_iload_n C 1 dMo_look_205 rfl rfl ?_
                      refine v_iload_n C 2 dMo_look_206 rfl rfl ?_
                      refine v_iload C dMo_look_207 rfl ?_
                      refine v_iaddN C dMo_look_209 ((nI_add _ _)) ?_
                      refine v_aload_n C 0 dMo_look_210 rfl rfl ?_
                      refine v_getiN C cfMo (k := 15) (by assumption) rfl w689 dMo_look_211 ((e15z _)) ?_
                      refine v_cVi C (c_Mo_isEnd (kl x) (kD x) _ _ _ (cnt := cnt) (L := L) (I m 15) hM (eLs _) hk (by omega) (eCt _) hc2) mwMo_isEnd cfMo (by assumption) w886 ws39 w884 rfl rfl (ble rfl) (ble rfl) (ble rfl) (ble rfl) (ble rfl) dMo_look_214 ?_
                      rw [eEnd _ z hz]
                      by_cases hE2 : eB (rE I m L k) cnt (I m 15) X z = true
                      · rw [if_pos hE2]
                        refine v_if_eq C 224 dMo_look_217 (by decide) (fun h => absurd h (by decide)) (fun _ => ?_)
                        refine v_iconst C 1 dMo_look_220 (by decide) ?_
                        refine v_goto C 225 dMo_look_221 (by decide) ?_
                        exact step 1 (Or.inr ⟨rfl, c179, lcmpE.mp c201, hE2⟩)
                      · rw [if_neg hE2]
                        refine v_if_eq C 224 dMo_look_217 (by decide) (fun _ => ?_) (fun h => absurd rfl h)
                        exact no (fun h => hE2 h.2.2)
                · refine v_iload C dMo_look_150 rfl ?_
                  refine v_if_ne C 233 dMo_look_152 (by decide) (fun _ => ?_) (fun h => absurd h (by decide))
                  exact fin 1 _ (Or.inr ⟨rfl, hs⟩)
            exact scan p 0 0 (by omega) (Or.inl ⟨rfl, fun y hy => absurd hy (Nat.not_lt_zero y)⟩)
          · rw [if_neg hE]
            refine v_if_eq C 252 dMo_look_118 (by decide) (fun _ => ?_) (fun h => absurd rfl h)
            refine v_iinc C (nI (p + 1)) dMo_look_252 rfl (nI_1 p) (ble rfl) rfl ?_
            refine v_goto C 99 dMo_look_255 (by decide) ?_
            have es : esum (eB (rE I m L k) cnt (I m 15) X) X.2.2.2 (p + 1) = esum (eB (rE I m L k) cnt (I m 15) X) X.2.2.2 p := by
              simp only [esum]
              rw [if_neg hE]
            have el : elst (eB (rE I m L k) cnt (I m 15) X) X.2.1 X.2.2.1 (p + 1) = elst (eB (rE I m L k) cnt (I m 15) X) X.2.1 X.2.2.1 p := by
              simp only [elst]
              rw [if_neg hE]
            rw [← es, ← el]
            exact ih (p + 1) _ _ (by omega)
      exact loop X.1 0 none none (by omega)
  · refine v_if_eq C 10 dMo_look_6 (by decide) (fun h => absurd h h9) (fun _ => ?_)
    exact v_vret C M dMo_look_9 (ble rfl) (ble rfl) ⟨rfl, rfl, Or.inl ⟨h9, rfl, rfl⟩⟩
