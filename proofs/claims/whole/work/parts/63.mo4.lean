/-! the walk of all possibilities, over any step -/
abbrev SF : Type := Int32 → Int64 → Nat → Option (Int64 × Int32 × Int32)
def bpl (S : SF) (f p : Nat) (X : XS) : Option XS := match S (X.2.1 f) (X.2.2.1 f) p with
  | none => some X
  | some c => xadd X f (keyB (X.2.1 f) p c.2.1) c.1
def bpls (S : SF) (f : Nat) : Nat → Nat → XS → Option XS
  | 0, _, X => some X
  | m + 1, p, X => match bpl S f p X with
    | none => none
    | some X2 => bpls S f m (p + 1) X2
def bfs (S : SF) (cnt : Nat) : Nat → Nat → XS → Option XS
  | 0, _, X => some X
  | m + 1, f, X => if f < X.1 then (match bpls S f cnt 0 X with
    | none => none
    | some X2 => bfs S cnt m (f + 1) X2) else some X
def brun (S : SF) (cnt : Nat) : Option XS := bfs S cnt 2000 0 X0
theorem xpls_b {E : Nat → Nat → Int32} {kind ret own : Int32} {f : Nat} : ∀ (m p : Nat) (X : XS), xpls E kind ret own f m p X = bpls (stp E kind ret own) f m p X
  | 0, _, _ => rfl
  | m + 1, p, X => by
    have e : xpl E kind ret own f p X = bpl (stp E kind ret own) f p X := rfl
    simp only [xpls, bpls, e]
    cases bpl (stp E kind ret own) f p X with
    | none => rfl
    | some X2 => exact xpls_b m (p + 1) X2
theorem xfs_b {E : Nat → Nat → Int32} {kind ret own : Int32} {cnt : Nat} : ∀ (m f : Nat) (X : XS), xfs E kind ret own cnt m f X = bfs (stp E kind ret own) cnt m f X
  | 0, _, _ => rfl
  | m + 1, f, X => by
    simp only [xfs, bfs, xpls_b]
    cases bpls (stp E kind ret own) f cnt 0 X with
    | none => rfl
    | some X2 =>
      show (if _ then xfs E kind ret own cnt m (f + 1) X2 else _) = _
      rw [xfs_b m (f + 1) X2]
theorem xrun_b (E : Nat → Nat → Int32) (kind ret own : Int32) (cnt : Nat) : xrun E kind ret own cnt = brun (stp E kind ret own) cnt := xfs_b _ _ _
/-! the reference's step -/
abbrev bfE (R : Nat → Nat → Int32) (N : Nat → Nat) (until_ own : Int32) (j i : Nat) : Prop := if own = 0 then bk (R j 11) until_ ∧ R j 11 < R i 10 else R j 4 = R i 4 ∧ nI (N j) < nI (N i)
abbrev rBar (R : Nat → Nat → Int32) (N : Nat → Nat) (cnt : Nat) (until_ own key : Int32) (i : Nat) : Prop := (jis key (nI i) &&& 1) = 1 ∨ until_ < R i 10 ∨ ¬ ∀ j, j < cnt → ¬ ((jis key (nI j) &&& 1) = 0 ∧ j ≠ i ∧ bfE R N until_ own j i)
def rstp (R : Nat → Nat → Int32) (N : Nat → Nat) (kind : Int32) (cnt : Nat) (until_ own : Int32) : SF := fun key w i =>
  if rBar R N cnt until_ own key i then none
  else if bk (R i 11) until_ ∧ (rchg R kind i w (ix (jis key 16))).2.2 ≠ R i 9 then none else some (rchg R kind i w (ix (jis key 16)))
def offM (m : Nat) (I : MI) (J : MJ) (I2 : MI) (J2 : MJ) : Prop := (∀ b, b ≠ m → I2 b = I b) ∧ (∀ q, q ≠ 28 → q ≠ 29 → I2 m q = I m q) ∧ ∀ b, b ≠ m → J2 b = J b
theorem offM.rf {m : Nat} {I : MI} {J : MJ} : offM m I J I J := ⟨fun _ _ => rfl, fun _ _ _ => rfl, fun _ _ => rfl⟩
theorem offM.tr {m : Nat} {I I2 I3 : MI} {J J2 J3 : MJ} (h : offM m I J I2 J2) (h2 : offM m I2 J2 I3 J3) : offM m I J I3 J3 := ⟨fun b hb => (h2.1 b hb).trans (h.1 b hb), fun q a b => (h2.2.1 q a b).trans (h.2.1 q a b), fun b hb => (h2.2.2 b hb).trans (h.2.2 b hb)⟩
def canQ (g : GM) (I : MI) (J : MJ) (m : Nat) (o : Option (Int64 × Int32 × Int32)) : Option Value → GM → MI → MJ → Prop := fun v g2 I2 J2 => g2 = g ∧ offM m I J I2 J2 ∧ (o = none ∧ v = some (.int 0) ∨ ∃ c, o = some c ∧ v = some (.int 1) ∧ J2 m 27 = c.1 ∧ I2 m 28 = c.2.1 ∧ I2 m 29 = c.2.2)
set_option maxHeartbeats 2000000 in
theorem c_Mo_can (l : Launch) (D : va_G) (g : GM) (I : MI) (J : MJ) {m k i p sz cnt : Nat} {L : Nat → Nat} (until_ own : Int32) (hM : MoAt g m) (hL : LsOK I m L) (hk : k < 6) (hi : i < 16) (hp : p < 14007) (hc : I (m + 2) k = nI cnt) (hc2 : cnt ≤ 16) (hz : jis (I (m + 13) p) 16 = nI sz) (hz2 : sz ≤ 16) (hw : MapOK (I (m + 1) k) (J (m + 14) p)) : Ct l yMo_can bMo_can 8 (some .boolean) (rmN 3 77) D [.ref m, .int (nI k), .int (nI i), .int (nI p), .int until_, .int own] g I J (canQ g I J m (rstp (rE I m L k) (fun j => L (16 * k + j)) (I (m + 1) k) cnt until_ own (I (m + 13) p) (J (m + 14) p) i)) := by
  refine Ct.of (by decide) (ble rfl) [some (.ref m), some (.int (nI k)), some (.int (nI i)), some (.int (nI p)), some (.int until_), some (.int own), none, none] rfl ?_
  intro x C M
  obtain ⟨m0, m1, m2, m3, m4, m5, m6, m7, m8, m9, m10, m11, m12, m13, m14, m15, m16, m17, m18, m19, m20, m21, m22, m23, m24, m25, m26, f2, f3, f4, f6, f7, f8, f9, f10, f11, f12, f13, f14, f16, f17, f18, f19, f20, f21, f22, f23, f24, f25, f26, f32, f33, f34⟩ := id hM
  have hl : ∀ j, j < 16 → I (m + 3) (16 * k + j) = nI (L (16 * k + j)) ∧ L (16 * k + j) < 48 := fun j hj => hL _ (by omega)
  have hli := (hl i hi).2
  have esz : ix (jis (I (m + 13) p) 16) = sz := by rw [hz]; exact nI_clamp (by omega)
  have no : rBar (rE I m L k) (fun j => L (16 * k + j)) cnt until_ own (I (m + 13) p) i → canQ g I J m (rstp (rE I m L k) (fun j => L (16 * k + j)) (I (m + 1) k) cnt until_ own (I (m + 13) p) (J (m + 14) p) i) (some (.int 0)) g I J := fun h => ⟨rfl, offM.rf, Or.inl ⟨by unfold rstp; rw [if_pos h], rfl⟩⟩
  refine v_aload_n C 0 dMo_can_0 rfl rfl ?_
  refine v_getr C cfMo (k := 4) (by assumption) rfl (by assumption) w678 dMo_can_1 ?_
  refine v_bipush C 16 dMo_can_4 (by decide) ?_
  refine v_iload_n C 1 dMo_can_6 rfl rfl ?_
  refine v_imul C dMo_can_7 ?_
  refine v_iload_n C 2 dMo_can_8 rfl rfl ?_
  refine v_iadd C dMo_can_9 ?_
  refine v_ialdN C (q := (16 * k + i)) (by assumption) (by first | rfl | (simp only [n16I, n2001I, nI_add, pk_mul, nI_1])) (by omega) (by decide) ((hl i hi).1) dMo_can_10 ?_
  refine v_istore C dMo_can_11 (ble rfl) rfl ?_
  refine v_aload_n C 0 dMo_can_13 rfl rfl ?_
  refine v_getr C cfMo (k := 16) (by assumption) rfl (by assumption) w690 dMo_can_14 ?_
  refine v_iload_n C 3 dMo_can_17 rfl rfl ?_
  refine v_ialdN C (q := (p)) (by assumption) (by first | rfl | (simp only [n16I, n2001I, nI_add, pk_mul, nI_1])) (by omega) (by decide) (rfl) dMo_can_18 ?_
  refine v_iload_n C 2 dMo_can_19 rfl rfl ?_
  refine v_ishr C dMo_can_20 ?_
  refine v_iconst C 1 dMo_can_21 (by decide) ?_
  refine v_iand C dMo_can_22 ?_
  refine v_iconst C 1 dMo_can_23 (by decide) ?_
  refine v_icmp_eq C 39 dMo_can_24 (by decide) (fun c24 => ?_) (fun c24 => ?_)
  · refine v_iconst C 0 dMo_can_39 (by decide) ?_
    exact v_zret C M (by first | exact Or.inl rfl | exact Or.inr rfl | assumption) dMo_can_40 (ble rfl) (ble rfl) (no (Or.inl c24))
  · refine v_aload_n C 0 dMo_can_27 rfl rfl ?_
    refine v_getr C cfMo (k := 12) (by assumption) rfl (by assumption) w686 dMo_can_28 ?_
    refine v_iload C dMo_can_31 rfl ?_
    refine v_ialdN C (q := (L (16 * k + i))) (by assumption) (by first | rfl | (simp only [n16I, n2001I, nI_add, pk_mul, nI_1])) (by omega) (by decide) (rfl) dMo_can_33 ?_
    refine v_iload C dMo_can_34 rfl ?_
    refine v_icmp_le C 41 dMo_can_36 (by decide) (fun c36 => ?_) (fun c36 => ?_)
    · refine v_iconst C 0 dMo_can_41 (by decide) ?_
      refine v_istore C dMo_can_42 (ble rfl) rfl ?_
      have loop : ∀ (q j : Nat), j + q = cnt → (∀ z, z < j → ¬ ((jis (I (m + 13) p) (nI z) &&& 1) = 0 ∧ z ≠ i ∧ bfE (rE I m L k) (fun j => L (16 * k + j)) until_ own z i)) → V x g 0 0 I J 44 [some (.ref m), some (.int (nI k)), some (.int (nI i)), some (.int (nI p)), some (.int until_), some (.int own), some (.int (nI (L (16 * k + i)))), some (.int (nI j))] [] := by
        intro q
        induction q with
        | zero =>
          intro j h1 h2
          refine v_iload C dMo_can_44 rfl ?_
          refine v_aload_n C 0 dMo_can_46 rfl rfl ?_
          refine v_getr C cfMo (k := 3) (by assumption) rfl (by assumption) w677 dMo_can_47 ?_
          refine v_iload_n C 1 dMo_can_50 rfl rfl ?_
          refine v_ialdN C (q := (k)) (by assumption) (by first | rfl | (simp only [n16I, n2001I, nI_add, pk_mul, nI_1])) (by omega) (by decide) (hc) dMo_can_51 ?_
          refine v_icmp_ge C 108 dMo_can_52 (by decide) (fun _ => ?_) (fun h => absurd (nI_le (by omega) (by omega)) h)
          refine v_aload_n C 0 dMo_can_108 rfl rfl ?_
          refine v_iload_n C 1 dMo_can_109 rfl rfl ?_
          refine v_iload_n C 2 dMo_can_110 rfl rfl ?_
          refine v_iload_n C 3 dMo_can_111 rfl rfl ?_
          have hnb : ¬ rBar (rE I m L k) (fun j => L (16 * k + j)) cnt until_ own (I (m + 13) p) i := by
            rintro (h | h | h)
            · exact c24 h
            · exact absurd c36 (Int32.not_le.mpr h)
            · exact h (fun z hz => h2 z (by omega))
          refine v_cVv C (c_Mo_doIt (kl x) (kD x) g I J hM hL hk hi hp hz hz2 hw) mwMo_doIt cfMo (by assumption) w842 ws30 w840 rfl rfl (ble rfl) (ble rfl) (ble rfl) (ble rfl) (ble rfl) dMo_can_112 ?_
          have er : rstp (rE I m L k) (fun j => L (16 * k + j)) (I (m + 1) k) cnt until_ own (I (m + 13) p) (J (m + 14) p) i = if bk (rE I m L k i 11) until_ ∧ (rchg (rE I m L k) (I (m + 1) k) i (J (m + 14) p) sz).2.2 ≠ rE I m L k i 9 then none else some (rchg (rE I m L k) (I (m + 1) k) i (J (m + 14) p) sz) := by
            unfold rstp
            rw [if_neg hnb, esz]
          generalize rchg (rE I m L k) (I (m + 1) k) i (J (m + 14) p) sz = c at er
          generalize eI : s2 (s2 I m 28 c.2.1) m 29 c.2.2 = I3
          generalize eJ : s2 J m 27 c.1 = J3
          have o3 : offM m I J I3 J3 := ⟨fun b hb => by rw [← eI, s2_off hb, s2_off hb], fun q a b => by rw [← eI, s2_k b, s2_k a], fun b hb => by rw [← eJ, s2_off hb]⟩
          have yes : ¬ (bk (rE I m L k i 11) until_ ∧ c.2.2 ≠ rE I m L k i 9) → canQ g I J m (rstp (rE I m L k) (fun j => L (16 * k + j)) (I (m + 1) k) cnt until_ own (I (m + 13) p) (J (m + 14) p) i) (some (.int 1)) g I3 J3 := fun h => ⟨rfl, o3, Or.inr ⟨c, by rw [er, if_neg h], rfl, by rw [← eJ, s2_self], by rw [← eI, s2_k (by decide), s2_self], by rw [← eI, s2_self]⟩⟩
          have e29 : I3 m 29 = c.2.2 := by rw [← eI, s2_self]
          refine v_aload_n C 0 dMo_can_115 rfl rfl ?_
          refine v_iload C dMo_can_116 rfl ?_
          refine v_iload C dMo_can_118 rfl ?_
          refine v_cVi C (c_Mo_isBack (kl x) (kD x) g I3 J3 until_ hM hli) mwMo_isBack cfMo (by assumption) w838 ws29 w836 rfl rfl (ble rfl) (ble rfl) (ble rfl) (ble rfl) (ble rfl) dMo_can_120 ?_
          rw [o3.1 (m + 11) (by omega)]
          by_cases hb : bk (I (m + 11) (L (16 * k + i))) until_
          · rw [if_pos hb]
            refine v_if_eq C 140 dMo_can_123 (by decide) (fun h => absurd h (by decide)) (fun _ => ?_)
            refine v_aload_n C 0 dMo_can_126 rfl rfl ?_
            refine v_getiN C cfMo (k := 29) (by assumption) rfl w703 dMo_can_127 (e29) ?_
            refine v_aload_n C 0 dMo_can_130 rfl rfl ?_
            refine v_getr C cfMo (k := 11) (by assumption) rfl (by assumption) w685 dMo_can_131 ?_
            refine v_iload C dMo_can_134 rfl ?_
            refine v_ialdN C (q := (L (16 * k + i))) (by assumption) (by first | rfl | (simp only [n16I, n2001I, nI_add, pk_mul, nI_1])) (by omega) (by decide) ((congrFun (o3.1 (m + 9) (by omega)) _)) dMo_can_136 ?_
            refine v_icmp_ne C 144 dMo_can_137 (by decide) (fun c137 => ?_) (fun c137 => ?_)
            · refine v_iconst C 0 dMo_can_144 (by decide) ?_
              exact v_zret C M (by first | exact Or.inl rfl | exact Or.inr rfl | assumption) dMo_can_145 (ble rfl) (ble rfl) ⟨rfl, o3, Or.inl ⟨by rw [er, if_pos ⟨hb, c137⟩], rfl⟩⟩
            · refine v_iconst C 1 dMo_can_140 (by decide) ?_
              refine v_goto C 145 dMo_can_141 (by decide) ?_
              exact v_zret C M (by first | exact Or.inl rfl | exact Or.inr rfl | assumption) dMo_can_145 (ble rfl) (ble rfl) (yes (fun h => h.2 c137))
          · rw [if_neg hb]
            refine v_if_eq C 140 dMo_can_123 (by decide) (fun _ => ?_) (fun h => absurd rfl h)
            refine v_iconst C 1 dMo_can_140 (by decide) ?_
            refine v_goto C 145 dMo_can_141 (by decide) ?_
            exact v_zret C M (by first | exact Or.inl rfl | exact Or.inr rfl | assumption) dMo_can_145 (ble rfl) (ble rfl) (yes (fun h => hb h.1))
        | succ q ih =>
          intro j h1 h2
          have hj : j < 16 := by omega
          have hlj := (hl j hj).2
          have next : ¬ ((jis (I (m + 13) p) (nI j) &&& 1) = 0 ∧ j ≠ i ∧ bfE (rE I m L k) (fun j => L (16 * k + j)) until_ own j i) → V x g 0 0 I J 102 [some (.ref m), some (.int (nI k)), some (.int (nI i)), some (.int (nI p)), some (.int until_), some (.int own), some (.int (nI (L (16 * k + i)))), some (.int (nI j))] [] := by
            intro hn
            refine v_iinc C (nI (j + 1)) dMo_can_102 rfl (nI_1 j) (ble rfl) rfl ?_
            refine v_goto C 44 dMo_can_105 (by decide) ?_
            refine ih (j + 1) (by omega) (fun z hz => ?_)
            rcases Nat.lt_succ_iff_lt_or_eq.mp hz with h | h
            · exact h2 z h
            · rw [h]; exact hn
          refine v_iload C dMo_can_44 rfl ?_
          refine v_aload_n C 0 dMo_can_46 rfl rfl ?_
          refine v_getr C cfMo (k := 3) (by assumption) rfl (by assumption) w677 dMo_can_47 ?_
          refine v_iload_n C 1 dMo_can_50 rfl rfl ?_
          refine v_ialdN C (q := (k)) (by assumption) (by first | rfl | (simp only [n16I, n2001I, nI_add, pk_mul, nI_1])) (by omega) (by decide) (hc) dMo_can_51 ?_
          refine v_icmp_ge C 108 dMo_can_52 (by decide) (fun h => absurd h (nI_ge (by omega) (by omega))) (fun _ => ?_)
          refine v_aload_n C 0 dMo_can_55 rfl rfl ?_
          refine v_getr C cfMo (k := 16) (by assumption) rfl (by assumption) w690 dMo_can_56 ?_
          refine v_iload_n C 3 dMo_can_59 rfl rfl ?_
          refine v_ialdN C (q := (p)) (by assumption) (by first | rfl | (simp only [n16I, n2001I, nI_add, pk_mul, nI_1])) (by omega) (by decide) (rfl) dMo_can_60 ?_
          refine v_iload C dMo_can_61 rfl ?_
          refine v_ishr C dMo_can_63 ?_
          refine v_iconst C 1 dMo_can_64 (by decide) ?_
          refine v_iand C dMo_can_65 ?_
          refine v_if_ne C 102 dMo_can_66 (by decide) (fun c66 => ?_) (fun c66 => ?_)
          · exact next (fun h => c66 h.1)
          · refine v_iload C dMo_can_69 rfl ?_
            refine v_iload_n C 2 dMo_can_71 rfl rfl ?_
            refine v_icmp_eq C 102 dMo_can_72 (by decide) (fun c72 => ?_) (fun c72 => ?_)
            · exact next (fun h => h.2.1 ((nI_eq (by omega) (by omega)).mp c72))
            · refine v_aload_n C 0 dMo_can_75 rfl rfl ?_
              refine v_aload_n C 0 dMo_can_76 rfl rfl ?_
              refine v_getr C cfMo (k := 4) (by assumption) rfl (by assumption) w678 dMo_can_77 ?_
              refine v_bipush C 16 dMo_can_80 (by decide) ?_
              refine v_iload_n C 1 dMo_can_82 rfl rfl ?_
              refine v_imul C dMo_can_83 ?_
              refine v_iload C dMo_can_84 rfl ?_
              refine v_iadd C dMo_can_86 ?_
              refine v_ialdN C (q := (16 * k + j)) (by assumption) (by first | rfl | (simp only [n16I, n2001I, nI_add, pk_mul, nI_1])) (by omega) (by decide) ((hl j hj).1) dMo_can_87 ?_
              refine v_iload C dMo_can_88 rfl ?_
              refine v_iload C dMo_can_90 rfl ?_
              refine v_iload C dMo_can_92 rfl ?_
              refine v_cVi C (c_Mo_isBefore (kl x) (kD x) g I J until_ own hM hlj hli) mwMo_isBefore cfMo (by assumption) w834 ws28 w832 rfl rfl (ble rfl) (ble rfl) (ble rfl) (ble rfl) (ble rfl) dMo_can_94 ?_
              by_cases hb : bfr I m until_ own (L (16 * k + j)) (L (16 * k + i))
              · rw [if_pos hb]
                refine v_if_eq C 102 dMo_can_97 (by decide) (fun h => absurd h (by decide)) (fun _ => ?_)
                refine v_iconst C 0 dMo_can_100 (by decide) ?_
                exact v_zret C M (by first | exact Or.inl rfl | exact Or.inr rfl | assumption) dMo_can_101 (ble rfl) (ble rfl) (no (Or.inr (Or.inr (fun h => h j (by omega) ⟨c66, fun e => c72 (by rw [e]), hb⟩))))
              · rw [if_neg hb]
                refine v_if_eq C 102 dMo_can_97 (by decide) (fun _ => ?_) (fun h => absurd rfl h)
                exact next (fun h => hb h.2.2)
      exact loop cnt 0 (by omega) (fun z hz => absurd hz (Nat.not_lt_zero z))
    · refine v_iconst C 0 dMo_can_39 (by decide) ?_
      exact v_zret C M (by first | exact Or.inl rfl | exact Or.inr rfl | assumption) dMo_can_40 (ble rfl) (ble rfl) (no (Or.inr (Or.inl (Int32.not_le.mp c36))))
def srch (K : Nat → Int32) (W9 : Nat → Int64) (key : Int32) (w : Int64) : Nat → Nat → Nat
  | 0, p => p
  | q + 1, p => if K p = key ∧ W9 p = w then p else srch K W9 key w q (p + 1)
theorem c_Mo_search (l : Launch) (D : va_G) (g : GM) (I : MI) (J : MJ) {m fr q : Nat} (key : Int32) (hM : MoAt g m) (hq : fr + q < 14007) : Ct l yMo_search bMo_search 5 (some .int) (rmN 0 0) D [.ref m, .int (nI fr), .int (nI (fr + q)), .int key] g I J (PF (some (.int (nI (srch (I (m + 13)) (J (m + 14)) key (J m 27) q fr)))) g I J) := by
  refine Ct.of (by decide) (ble rfl) [some (.ref m), some (.int (nI fr)), some (.int (nI (fr + q))), some (.int key), none] rfl ?_
  intro x C M
  obtain ⟨m0, m1, m2, m3, m4, m5, m6, m7, m8, m9, m10, m11, m12, m13, m14, m15, m16, m17, m18, m19, m20, m21, m22, m23, m24, m25, m26, f2, f3, f4, f6, f7, f8, f9, f10, f11, f12, f13, f14, f16, f17, f18, f19, f20, f21, f22, f23, f24, f25, f26, f32, f33, f34⟩ := id hM
  refine v_iload_n C 1 dMo_search_0 rfl rfl ?_
  refine v_istore C dMo_search_1 (ble rfl) rfl ?_
  have loop : ∀ (n p : Nat), p + n = fr + q → srch (I (m + 13)) (J (m + 14)) key (J m 27) n p = srch (I (m + 13)) (J (m + 14)) key (J m 27) q fr → V x g 0 0 I J 3 [some (.ref m), some (.int (nI fr)), some (.int (nI (fr + q))), some (.int key), some (.int (nI p))] [] := by
    intro n
    induction n with
    | zero =>
      intro p h1 h2
      refine v_iload C dMo_search_3 rfl ?_
      refine v_iload_n C 2 dMo_search_5 rfl rfl ?_
      refine v_icmp_ge C 41 dMo_search_6 (by decide) (fun _ => ?_) (fun h => absurd (nI_le (by omega) (by omega)) h)
      refine v_iload C dMo_search_41 rfl ?_
      exact v_iret C M dMo_search_43 (ble rfl) (ble rfl) (pf_i (by rw [← h2]; rfl) rfl rfl)
    | succ n ih =>
      intro p h1 h2
      have next : ¬ (I (m + 13) p = key ∧ J (m + 14) p = J m 27) → V x g 0 0 I J 35 [some (.ref m), some (.int (nI fr)), some (.int (nI (fr + q))), some (.int key), some (.int (nI p))] [] := by
        intro hn
        refine v_iinc C (nI (p + 1)) dMo_search_35 rfl (nI_1 p) (ble rfl) rfl ?_
        refine v_goto C 3 dMo_search_38 (by decide) ?_
        refine ih (p + 1) (by omega) ?_
        rw [← h2]
        simp only [srch]
        rw [if_neg hn]
      refine v_iload C dMo_search_3 rfl ?_
      refine v_iload_n C 2 dMo_search_5 rfl rfl ?_
      refine v_icmp_ge C 41 dMo_search_6 (by decide) (fun h => absurd h (nI_ge (by omega) (by omega))) (fun _ => ?_)
      refine v_aload_n C 0 dMo_search_9 rfl rfl ?_
      refine v_getr C cfMo (k := 16) (by assumption) rfl (by assumption) w690 dMo_search_10 ?_
      refine v_iload C dMo_search_13 rfl ?_
      refine v_ialdN C (q := (p)) (by assumption) (by first | rfl | (simp only [n16I, n2001I, nI_add, pk_mul, nI_1])) (by omega) (by decide) (rfl) dMo_search_15 ?_
      refine v_iload_n C 3 dMo_search_16 rfl rfl ?_
      refine v_icmp_ne C 35 dMo_search_17 (by decide) (fun c17 => ?_) (fun c17 => ?_)
      · exact next (fun h => c17 h.1)
      · refine v_aload_n C 0 dMo_search_20 rfl rfl ?_
        refine v_getr C cfMo (k := 17) (by assumption) rfl (by assumption) w691 dMo_search_21 ?_
        refine v_iload C dMo_search_24 rfl ?_
        refine v_laldN C (q := (p)) (by assumption) (by first | rfl | (simp only [n16I, n2001I, nI_add, pk_mul, nI_1])) (by omega) (by decide) (rfl) dMo_search_26 ?_
        refine v_aload_n C 0 dMo_search_27 rfl rfl ?_
        refine v_getl C cfMo (k := 27) (by assumption) rfl w701 dMo_search_28 ?_
        refine v_lcmp C dMo_search_31 ?_
        refine v_if_eq C 41 dMo_search_32 (by decide) (fun c32 => ?_) (fun c32 => ?_)
        · refine v_iload C dMo_search_41 rfl ?_
          exact v_iret C M dMo_search_43 (ble rfl) (ble rfl) (pf_i (by rw [← h2]; simp only [srch]; rw [if_pos ⟨c17, lcmpE.mp c32⟩]) rfl rfl)
        · exact next (fun h => c32 (lcmpE.mpr h.2))
  exact loop q fr rfl rfl
abbrev rEnd (R : Nat → Nat → Int32) (cnt : Nat) (until_ key : Int32) : Prop := ∀ j, j < cnt → ¬ ((jis key (nI j) &&& 1) = 0 ∧ bk (R j 11) until_)
theorem c_Mo_isEnd (l : Launch) (D : va_G) (g : GM) (I : MI) (J : MJ) {m k p cnt : Nat} {L : Nat → Nat} (until_ : Int32) (hM : MoAt g m) (hL : LsOK I m L) (hk : k < 6) (hp : p < 14007) (hc : I (m + 2) k = nI cnt) (hc2 : cnt ≤ 16) : Ct l yMo_isEnd bMo_isEnd 5 (some .boolean) (rmN 1 22) D [.ref m, .int (nI k), .int (nI p), .int until_] g I J (PF (some (.int (if rEnd (rE I m L k) cnt until_ (I (m + 13) p) then 1 else 0))) g I J) := by
  refine Ct.of (by decide) (ble rfl) [some (.ref m), some (.int (nI k)), some (.int (nI p)), some (.int until_), none] rfl ?_
  intro x C M
  obtain ⟨m0, m1, m2, m3, m4, m5, m6, m7, m8, m9, m10, m11, m12, m13, m14, m15, m16, m17, m18, m19, m20, m21, m22, m23, m24, m25, m26, f2, f3, f4, f6, f7, f8, f9, f10, f11, f12, f13, f14, f16, f17, f18, f19, f20, f21, f22, f23, f24, f25, f26, f32, f33, f34⟩ := id hM
  have hl : ∀ j, j < 16 → I (m + 3) (16 * k + j) = nI (L (16 * k + j)) ∧ L (16 * k + j) < 48 := fun j hj => hL _ (by omega)
  refine v_iconst C 0 dMo_isEnd_0 (by decide) ?_
  refine v_istore C dMo_isEnd_1 (ble rfl) rfl ?_
  have loop : ∀ (q j : Nat), j + q = cnt → (∀ z, z < j → ¬ ((jis (I (m + 13) p) (nI z) &&& 1) = 0 ∧ bk (rE I m L k z 11) until_)) → V x g 0 0 I J 3 [some (.ref m), some (.int (nI k)), some (.int (nI p)), some (.int until_), some (.int (nI j))] [] := by
    intro q
    induction q with
    | zero =>
      intro j h1 h2
      refine v_iload C dMo_isEnd_3 rfl ?_
      refine v_aload_n C 0 dMo_isEnd_5 rfl rfl ?_
      refine v_getr C cfMo (k := 3) (by assumption) rfl (by assumption) w677 dMo_isEnd_6 ?_
      refine v_iload_n C 1 dMo_isEnd_9 rfl rfl ?_
      refine v_ialdN C (q := (k)) (by assumption) (by first | rfl | (simp only [n16I, n2001I, nI_add, pk_mul, nI_1])) (by omega) (by decide) (hc) dMo_isEnd_10 ?_
      refine v_icmp_ge C 56 dMo_isEnd_11 (by decide) (fun _ => ?_) (fun h => absurd (nI_le (by omega) (by omega)) h)
      refine v_iconst C 1 dMo_isEnd_56 (by decide) ?_
      exact v_zret C M (by first | exact Or.inl rfl | exact Or.inr rfl | assumption) dMo_isEnd_57 (ble rfl) (ble rfl) (pf_i (by rw [if_pos (fun z hz => h2 z (by omega))]) rfl rfl)
    | succ q ih =>
      intro j h1 h2
      have hj : j < 16 := by omega
      have hlj := (hl j hj).2
      have next : ¬ ((jis (I (m + 13) p) (nI j) &&& 1) = 0 ∧ bk (rE I m L k j 11) until_) → V x g 0 0 I J 50 [some (.ref m), some (.int (nI k)), some (.int (nI p)), some (.int until_), some (.int (nI j))] [] := by
        intro hn
        refine v_iinc C (nI (j + 1)) dMo_isEnd_50 rfl (nI_1 j) (ble rfl) rfl ?_
        refine v_goto C 3 dMo_isEnd_53 (by decide) ?_
        refine ih (j + 1) (by omega) (fun z hz => ?_)
        rcases Nat.lt_succ_iff_lt_or_eq.mp hz with h | h
        · exact h2 z h
        · rw [h]; exact hn
      refine v_iload C dMo_isEnd_3 rfl ?_
      refine v_aload_n C 0 dMo_isEnd_5 rfl rfl ?_
      refine v_getr C cfMo (k := 3) (by assumption) rfl (by assumption) w677 dMo_isEnd_6 ?_
      refine v_iload_n C 1 dMo_isEnd_9 rfl rfl ?_
      refine v_ialdN C (q := (k)) (by assumption) (by first | rfl | (simp only [n16I, n2001I, nI_add, pk_mul, nI_1])) (by omega) (by decide) (hc) dMo_isEnd_10 ?_
      refine v_icmp_ge C 56 dMo_isEnd_11 (by decide) (fun h => absurd h (nI_ge (by omega) (by omega))) (fun _ => ?_)
      refine v_aload_n C 0 dMo_isEnd_14 rfl rfl ?_
      refine v_getr C cfMo (k := 16) (by assumption) rfl (by assumption) w690 dMo_isEnd_15 ?_
      refine v_iload_n C 2 dMo_isEnd_18 rfl rfl ?_
      refine v_ialdN C (q := (p)) (by assumption) (by first | rfl | (simp only [n16I, n2001I, nI_add, pk_mul, nI_1])) (by omega) (by decide) (rfl) dMo_isEnd_19 ?_
      refine v_iload C dMo_isEnd_20 rfl ?_
      refine v_ishr C dMo_isEnd_22 ?_
      refine v_iconst C 1 dMo_isEnd_23 (by decide) ?_
      refine v_iand C dMo_isEnd_24 ?_
      refine v_if_ne C 50 dMo_isEnd_25 (by decide) (fun c25 => ?_) (fun c25 => ?_)
      · exact next (fun h => c25 h.1)
      · refine v_aload_n C 0 dMo_isEnd_28 rfl rfl ?_
        refine v_aload_n C 0 dMo_isEnd_29 rfl rfl ?_
        refine v_getr C cfMo (k := 4) (by assumption) rfl (by assumption) w678 dMo_isEnd_30 ?_
        refine v_bipush C 16 dMo_isEnd_33 (by decide) ?_
        refine v_iload_n C 1 dMo_isEnd_35 rfl rfl ?_
        refine v_imul C dMo_isEnd_36 ?_
        refine v_iload C dMo_isEnd_37 rfl ?_
        refine v_iadd C dMo_isEnd_39 ?_
        refine v_ialdN C (q := (16 * k + j)) (by assumption) (by first | rfl | (simp only [n16I, n2001I, nI_add, pk_mul, nI_1])) (by omega) (by decide) ((hl j hj).1) dMo_isEnd_40 ?_
        refine v_iload_n C 3 dMo_isEnd_41 rfl rfl ?_
        refine v_cVi C (c_Mo_isBack (kl x) (kD x) g I J until_ hM hlj) mwMo_isBack cfMo (by assumption) w838 ws29 w836 rfl rfl (ble rfl) (ble rfl) (ble rfl) (ble rfl) (ble rfl) dMo_isEnd_42 ?_
        by_cases hb : bk (I (m + 11) (L (16 * k + j))) until_
        · rw [if_pos hb]
          refine v_if_eq C 50 dMo_isEnd_45 (by decide) (fun h => absurd h (by decide)) (fun _ => ?_)
          refine v_iconst C 0 dMo_isEnd_48 (by decide) ?_
          exact v_zret C M (by first | exact Or.inl rfl | exact Or.inr rfl | assumption) dMo_isEnd_49 (ble rfl) (ble rfl) (pf_i (by rw [if_neg (fun h => h j (by omega) ⟨c25, hb⟩)]) rfl rfl)
        · rw [if_neg hb]
          refine v_if_eq C 50 dMo_isEnd_45 (by decide) (fun _ => ?_) (fun h => absurd rfl h)
          exact next (fun h => hb h.2)
  exact loop cnt 0 (by omega) (fun z hz => absurd hz (Nat.not_lt_zero z))
theorem c_Mo_judgeOf_many (l : Launch) (D : va_G) (g : GM) (I : MI) (J : MJ) {m : Nat} (k b until_ : Int32) : Ct l yMo_judgeOf bMo_judgeOf 6 (some .int) (rmN 2 46) D [.ref m, .int k, .int b, .int (-2), .int until_] g I J (PF (some (.int (-2))) g I J) := by
  refine Ct.of (by decide) (ble rfl) [some (.ref m), some (.int k), some (.int b), some (.int (-2)), some (.int until_), none] rfl ?_
  intro x C M
  refine v_iload_n C 3 dMo_judgeOf_0 rfl rfl ?_
  refine v_bipush C (-2) dMo_judgeOf_1 (by decide) ?_
  refine v_icmp_ne C 9 dMo_judgeOf_3 (by decide) (fun h => absurd rfl h) (fun _ => ?_)
  refine v_bipush C (-2) dMo_judgeOf_6 (by decide) ?_
  exact v_iret C M dMo_judgeOf_8 (ble rfl) (ble rfl) (pf_i rfl rfl rfl)
theorem c_Mo_judgeOf (l : Launch) (D : va_G) (g : GM) (I : MI) (J : MJ) {m k base n cnt : Nat} {L : Nat → Nat} (until_ : Int32) (hM : MoAt g m) (hL : LsOK I m L) (hk : k < 6) (hp : base + n ≤ 14007) (hc : I (m + 2) k = nI cnt) (hc2 : cnt ≤ 16) : Ct l yMo_judgeOf bMo_judgeOf 6 (some .int) (rmN 2 46) D [.ref m, .int (nI k), .int (nI base), .int (nI n), .int until_] g I J (PF (some (.int (if ∀ p, p < n → ¬ rEnd (rE I m L k) cnt until_ (I (m + 13) (base + p)) then 0 else 1))) g I J) := by
  refine Ct.of (by decide) (ble rfl) [some (.ref m), some (.int (nI k)), some (.int (nI base)), some (.int (nI n)), some (.int until_), none] rfl ?_
  intro x C M
  obtain ⟨m0, m1, m2, m3, m4, m5, m6, m7, m8, m9, m10, m11, m12, m13, m14, m15, m16, m17, m18, m19, m20, m21, m22, m23, m24, m25, m26, f2, f3, f4, f6, f7, f8, f9, f10, f11, f12, f13, f14, f16, f17, f18, f19, f20, f21, f22, f23, f24, f25, f26, f32, f33, f34⟩ := id hM
  refine v_iload_n C 3 dMo_judgeOf_0 rfl rfl ?_
  refine v_bipush C (-2) dMo_judgeOf_1 (by decide) ?_
  refine v_icmp_ne C 9 dMo_judgeOf_3 (by decide) (fun _ => ?_) (fun h => absurd h (fun e => by have h0 := nI_pos (n := n) (by omega); rw [e] at h0; exact h0 (by decide)))
  refine v_iconst C 0 dMo_judgeOf_9 (by decide) ?_
  refine v_istore C dMo_judgeOf_10 (ble rfl) rfl ?_
  have loop : ∀ (q p : Nat), p + q = n → (∀ z, z < p → ¬ rEnd (rE I m L k) cnt until_ (I (m + 13) (base + z))) → V x g 0 0 I J 12 [some (.ref m), some (.int (nI k)), some (.int (nI base)), some (.int (nI n)), some (.int until_), some (.int (nI p))] [] := by
    intro q
    induction q with
    | zero =>
      intro p h1 h2
      refine v_iload C dMo_judgeOf_12 rfl ?_
      refine v_iload_n C 3 dMo_judgeOf_14 rfl rfl ?_
      refine v_icmp_ge C 40 dMo_judgeOf_15 (by decide) (fun _ => ?_) (fun h => absurd (nI_le (by omega) (by omega)) h)
      refine v_iconst C 0 dMo_judgeOf_40 (by decide) ?_
      exact v_iret C M dMo_judgeOf_41 (ble rfl) (ble rfl) (pf_i (by rw [if_pos (fun z hz => h2 z (by omega))]) rfl rfl)
    | succ q ih =>
      intro p h1 h2
      refine v_iload C dMo_judgeOf_12 rfl ?_
      refine v_iload_n C 3 dMo_judgeOf_14 rfl rfl ?_
      refine v_icmp_ge C 40 dMo_judgeOf_15 (by decide) (fun h => absurd h (nI_ge (by omega) (by omega))) (fun _ => ?_)
      refine v_aload_n C 0 dMo_judgeOf_18 rfl rfl ?_
      refine v_iload_n C 1 dMo_judgeOf_19 rfl rfl ?_
      refine v_iload_n C 2 dMo_judgeOf_20 rfl rfl ?_
      refine v_iload C dMo_judgeOf_21 rfl ?_
      refine v_iaddN C dMo_judgeOf_23 ((nI_add _ _)) ?_
      refine v_iload C dMo_judgeOf_24 rfl ?_
      refine v_cVi C (c_Mo_isEnd (kl x) (kD x) g I J until_ hM hL hk (by omega) hc hc2) mwMo_isEnd cfMo (by assumption) w886 ws39 w884 rfl rfl (ble rfl) (ble rfl) (ble rfl) (ble rfl) (ble rfl) dMo_judgeOf_26 ?_
      by_cases hb : rEnd (rE I m L k) cnt until_ (I (m + 13) (base + p))
      · rw [if_pos hb]
        refine v_if_eq C 34 dMo_judgeOf_29 (by decide) (fun h => absurd h (by decide)) (fun _ => ?_)
        refine v_iconst C 1 dMo_judgeOf_32 (by decide) ?_
        exact v_iret C M dMo_judgeOf_33 (ble rfl) (ble rfl) (pf_i (by rw [if_neg (fun h => h p (by omega) hb)]) rfl rfl)
      · rw [if_neg hb]
        refine v_if_eq C 34 dMo_judgeOf_29 (by decide) (fun _ => ?_) (fun h => absurd rfl h)
        refine v_iinc C (nI (p + 1)) dMo_judgeOf_34 rfl (nI_1 p) (ble rfl) rfl ?_
        refine v_goto C 12 dMo_judgeOf_37 (by decide) ?_
        refine ih (p + 1) (by omega) (fun z hz => ?_)
        rcases Nat.lt_succ_iff_lt_or_eq.mp hz with h | h
        · exact h2 z h
        · rw [h]; exact hb
  exact loop n 0 (by omega) (fun z hz => absurd hz (Nat.not_lt_zero z))
