def eqR (R R2 : Nat → Nat → Int32) : Prop := ∀ f, 4 ≤ f → f ≤ 11 → (fun j => R2 j f) = fun j => R j f
theorem eqR.at {R R2 : Nat → Nat → Int32} (h : eqR R R2) (i f : Nat) (h1 : 4 ≤ f) (h2 : f ≤ 11) : R2 i f = R i f := congrFun (h f h1 h2) i
theorem rchg_congr {R R2 : Nat → Nat → Int32} {kind : Int32} {i sz : Nat} {w : Int64} (h : eqR R R2) : rchg R2 kind i w sz = rchg R kind i w sz := by
  unfold rchg
  rw [h.at i 6 (by decide) (by decide), h.at i 7 (by decide) (by decide), h.at i 8 (by decide) (by decide), h 7 (by decide) (by decide), h 8 (by decide) (by decide)]
theorem bfE_congr {R R2 : Nat → Nat → Int32} {N : Nat → Nat} {until_ own : Int32} (h : eqR R R2) (j i : Nat) : bfE R2 N until_ own j i = bfE R N until_ own j i := by
  unfold bfE
  rw [h.at j 11 (by decide) (by decide), h.at i 10 (by decide) (by decide), h.at j 4 (by decide) (by decide), h.at i 4 (by decide) (by decide)]
theorem rstp_congr {R R2 : Nat → Nat → Int32} {N : Nat → Nat} {kind : Int32} {cnt : Nat} {until_ own : Int32} (h : eqR R R2) : rstp R2 N kind cnt until_ own = rstp R N kind cnt until_ own := by
  funext key w i
  have e : rBar R2 N cnt until_ own key i ↔ rBar R N cnt until_ own key i := by
    unfold rBar
    rw [h.at i 10 (by decide) (by decide)]
    simp only [bfE_congr h]
  unfold rstp
  rw [rchg_congr h, h.at i 11 (by decide) (by decide), h.at i 9 (by decide) (by decide)]
  by_cases hb : rBar R N cnt until_ own key i
  · rw [if_pos hb, if_pos (e.mpr hb)]
  · rw [if_neg hb, if_neg (fun q => hb (e.mp q))]
theorem rEnd_congr {R R2 : Nat → Nat → Int32} {cnt : Nat} {until_ key : Int32} (h : eqR R R2) : rEnd R2 cnt until_ key ↔ rEnd R cnt until_ key := by
  unfold rEnd
  constructor
  · intro q j hj z
    exact q j hj ⟨z.1, by rw [h.at j 11 (by decide) (by decide)]; exact z.2⟩
  · intro q j hj z
    exact q j hj ⟨z.1, by rw [← h.at j 11 (by decide) (by decide)]; exact z.2⟩
theorem eqR_mem {I I2 : MI} {m k : Nat} {L : Nat → Nat} (h : ∀ f, 4 ≤ f → f ≤ 11 → I2 (m + f) = I (m + f)) : eqR (rE I m L k) (rE I2 m L k) := fun f h1 h2 => by
  funext j
  show I2 (m + f) _ = I (m + f) _
  rw [h f h1 h2]
def XR (I : MI) (J : MJ) (m base : Nat) (X : XS) : Prop := ∀ i, i < X.1 → I (m + 13) (base + i) = X.2.1 i ∧ J (m + 14) (base + i) = X.2.2.1 i
def XW (J : MJ) (m : Nat) (X : XS) : Prop := ∀ i, i < X.1 → J (m + 16) i = X.2.2.2 i
def offG (m base : Nat) (I : MI) (J : MJ) (I2 : MI) (J2 : MJ) : Prop := (∀ b, b ≠ m → b ≠ m + 13 → I2 b = I b) ∧ (∀ q, q ≠ 28 → q ≠ 29 → I2 m q = I m q) ∧ (∀ i, i < base ∨ base + 2000 ≤ i → I2 (m + 13) i = I (m + 13) i) ∧ (∀ b, b ≠ m → b ≠ m + 14 → b ≠ m + 16 → J2 b = J b) ∧ ∀ i, i < base ∨ base + 2000 ≤ i → J2 (m + 14) i = J (m + 14) i
theorem offG.rf {m base : Nat} {I : MI} {J : MJ} : offG m base I J I J := ⟨fun _ _ _ => rfl, fun _ _ _ => rfl, fun _ _ => rfl, fun _ _ _ _ => rfl, fun _ _ => rfl⟩
theorem offG.tr {m base : Nat} {I I2 I3 : MI} {J J2 J3 : MJ} (h : offG m base I J I2 J2) (h2 : offG m base I2 J2 I3 J3) : offG m base I J I3 J3 := ⟨fun b a c => (h2.1 b a c).trans (h.1 b a c), fun q a c => (h2.2.1 q a c).trans (h.2.1 q a c), fun i hi => (h2.2.2.1 i hi).trans (h.2.2.1 i hi), fun b a c d => (h2.2.2.2.1 b a c d).trans (h.2.2.2.1 b a c d), fun i hi => (h2.2.2.2.2 i hi).trans (h.2.2.2.2 i hi)⟩
theorem offM.G {m base : Nat} {I I2 : MI} {J J2 : MJ} (h : offM m I J I2 J2) : offG m base I J I2 J2 := ⟨fun b a _ => h.1 b a, h.2.1, fun i _ => by rw [h.1 _ (by omega)], fun b a _ _ => h.2.2 b a, fun i _ => by rw [h.2.2 _ (by omega)]⟩
/-- what gather() keeps to while it walks -/
def GM9 (m base : Nat) (kind : Int32) (I : MI) (J : MJ) (f : Nat) (X : XS) (Ic : MI) (Jc : MJ) : Prop := BInv f X ∧ (∀ i, i < X.1 → MapOK kind (X.2.2.1 i)) ∧ XR Ic Jc m base X ∧ XW Jc m X ∧ offG m base I J Ic Jc
def gatQ (g : GM) (I : MI) (J : MJ) (m base cnt : Nat) (S : SF) : Option Value → GM → MI → MJ → Prop := fun v g2 I2 J2 => g2 = g ∧ offG m base I J I2 J2 ∧ (brun S cnt = none ∧ v = some (.int (-2)) ∨ ∃ X, brun S cnt = some X ∧ v = some (.int (nI X.1)) ∧ XR I2 J2 m base X ∧ XW J2 m X)
theorem rstp_MapOK {R : Nat → Nat → Int32} {N : Nat → Nat} {kind : Int32} {cnt : Nat} {until_ own key : Int32} {w : Int64} {p : Nat} {c : Int64 × Int32 × Int32} (hp : p < 16) (h : rstp R N kind cnt until_ own key w p = some c) (hw : MapOK kind w) : MapOK kind c.1 := by
  rw [(rstp_some h).2.2]
  exact rchg_MapOK hp hw
set_option maxHeartbeats 4000000 in
theorem c_Mo_gather (l : Launch) (D : va_G) (g : GM) (I : MI) (J : MJ) {m k base cnt : Nat} {L : Nat → Nat} (until_ own : Int32) (hM : MoAt g m) (hL : LsOK I m L) (hk : k < 6) (hb : base + 2001 ≤ 14007) (hc : I (m + 2) k = nI cnt) (hc2 : cnt ≤ 16) : Ct l yMo_gather bMo_gather 10 (some .int) (rmN 4 104) D [.ref m, .int (nI k), .int (nI base), .int until_, .int own] g I J (gatQ g I J m base cnt (rstp (rE I m L k) (fun j => L (16 * k + j)) (I (m + 1) k) cnt until_ own)) := by
  refine Ct.of (by decide) (ble rfl) [some (.ref m), some (.int (nI k)), some (.int (nI base)), some (.int until_), some (.int own), none, none, none, none, none] rfl ?_
  intro x C M
  obtain ⟨m0, m1, m2, m3, m4, m5, m6, m7, m8, m9, m10, m11, m12, m13, m14, m15, m16, m17, m18, m19, m20, m21, m22, m23, m24, m25, m26, f2, f3, f4, f6, f7, f8, f9, f10, f11, f12, f13, f14, f16, f17, f18, f19, f20, f21, f22, f23, f24, f25, f26, f32, f33, f34⟩ := id hM
  generalize eS : rstp (rE I m L k) (fun j => L (16 * k + j)) (I (m + 1) k) cnt until_ own = S at M
  have hS : SOK S := by rw [← eS]; exact rstp_SOK _ _ _ _ _ _
  have hSM : ∀ (key : Int32) (w : Int64) (p : Nat) (c : Int64 × Int32 × Int32), p < 16 → S key w p = some c → MapOK (I (m + 1) k) w → MapOK (I (m + 1) k) c.1 := by
    intro key w p c hp h hw
    rw [← eS] at h
    exact rstp_MapOK hp h hw
  refine v_aload_n C 0 dMo_gather_0 rfl rfl ?_
  refine v_getr C cfMo (k := 16) (by assumption) rfl (by assumption) w690 dMo_gather_1 ?_
  refine v_iload_n C 2 dMo_gather_4 rfl rfl ?_
  refine v_iconst C 0 dMo_gather_5 (by decide) ?_
  refine v_iastN C (q := (base)) (by assumption) (by first | rfl | (simp only [n16I, n2001I, nI_add, pk_mul, nI_1])) (by omega) (by decide) dMo_gather_6 ?_
  refine v_aload_n C 0 dMo_gather_7 rfl rfl ?_
  refine v_getr C cfMo (k := 17) (by assumption) rfl (by assumption) w691 dMo_gather_8 ?_
  refine v_iload_n C 2 dMo_gather_11 rfl rfl ?_
  refine v_lconst C 0 dMo_gather_12 (by decide) ?_
  refine v_lastN C (q := (base)) (by assumption) (by first | rfl | (simp only [n16I, n2001I, nI_add, pk_mul, nI_1])) (by omega) (by decide) dMo_gather_13 ?_
  refine v_aload_n C 0 dMo_gather_14 rfl rfl ?_
  refine v_getr C cfMo (k := 19) (by assumption) rfl (by assumption) w693 dMo_gather_15 ?_
  refine v_iconst C 0 dMo_gather_18 (by decide) ?_
  refine v_lconst C 1 dMo_gather_19 (by decide) ?_
  refine v_lastN C (q := (0)) (by assumption) (by first | rfl | (simp only [n16I, n2001I, nI_add, pk_mul, nI_1])) (by omega) (by decide) dMo_gather_20 ?_
  refine v_iconst C 1 dMo_gather_21 (by decide) ?_
  refine v_istore C dMo_gather_22 (ble rfl) rfl ?_
  refine v_iconst C 0 dMo_gather_24 (by decide) ?_
  refine v_istore C dMo_gather_25 (ble rfl) rfl ?_
  have base0 : GM9 m base (I (m + 1) k) I J 0 X0 (s2 I (m + 13) base 0) (s2 (s2 J (m + 14) base 0) (m + 16) 0 1) := by
    refine ⟨X0_BInv, fun i hi hkd a => ⟨0, by decide, ?_⟩, fun i hi => ?_, fun i hi => ?_, ?_⟩
    · obtain ⟨q, hq, eq⟩ := a7 a
      rw [rmH_fld hq eq]
      have e0 : fld (X0.2.2.1 i) (5 * q) 5 = 0 := fld_eq (by decide) (fun j _ => by show gb 0 _ = _; rw [gb_0]; simp)
      rw [e0]
    · have h0 : i = 0 := by
        have hi : i < 1 := hi
        omega
      subst h0
      exact ⟨s2_self _ _ _ _, by rw [s2_a (by omega)]; exact s2_self _ _ _ _⟩
    · have h0 : i = 0 := by
        have hi : i < 1 := hi
        omega
      subst h0
      exact s2_self _ _ _ _
    · exact ⟨fun b b1 b2 => s2_off b2, fun q _ _ => by rw [s2_a (by omega)], fun i hi => s2_k (by omega), fun b b1 b2 b3 => by rw [s2_off b3, s2_off b2], fun i hi => by rw [s2_a (by omega), s2_k (by omega)]⟩
  have inner : ∀ (q p f : Nat) (X : XS) (Ic : MI) (Jc : MJ), p + q = cnt → f < X.1 → GM9 m base (I (m + 1) k) I J f X Ic Jc → (∀ X2 I5 J5, bpls S f q p X = some X2 → GM9 m base (I (m + 1) k) I J f X2 I5 J5 → X.1 ≤ X2.1 → V x g 0 0 I5 J5 188 [some (.ref m), some (.int (nI k)), some (.int (nI base)), some (.int until_), some (.int own), some (.int (nI X2.1)), some (.int (nI f)), none, none, none] []) → (bpls S f q p X = none → brun S cnt = none) → V x g 0 0 Ic Jc 37 [some (.ref m), some (.int (nI k)), some (.int (nI base)), some (.int until_), some (.int own), some (.int (nI X.1)), some (.int (nI f)), some (.int (nI p)), none, none] [] := by
    intro q
    induction q with
    | zero =>
      intro p f X Ic Jc h1 hf hX hk2 hno
      have o := hX.2.2.2.2
      refine v_iload C dMo_gather_37 rfl ?_
      refine v_aload_n C 0 dMo_gather_39 rfl rfl ?_
      refine v_getr C cfMo (k := 3) (by assumption) rfl (by assumption) w677 dMo_gather_40 ?_
      refine v_iload_n C 1 dMo_gather_43 rfl rfl ?_
      refine v_ialdN C (q := (k)) (by assumption) (by first | rfl | (simp only [n16I, n2001I, nI_add, pk_mul, nI_1])) (by omega) (by decide) ((congrFun (o.1 (m + 2) (by omega) (by omega)) _).trans hc) dMo_gather_44 ?_
      refine v_icmp_ge C 188 dMo_gather_45 (by decide) (fun _ => ?_) (fun h => absurd (nI_le (by omega) (by omega)) h)
      exact (hk2 X Ic Jc rfl hX (Nat.le_refl _)).drop ⟨rfl, rfl, rfl, rfl, rfl, rfl, rfl, trivial⟩
    | succ q ih =>
      intro p f X Ic Jc h1 hf hX hk2 hno
      obtain ⟨bi, mo, xr, xw, o⟩ := id hX
      have hp : p < 16 := by omega
      have hXn := bi.1.1
      obtain ⟨km9, ksz, kg⟩ := bi.1.2 f hf
      have hLc : LsOK Ic m L := fun z hz => by rw [o.1 (m + 3) (by omega) (by omega)]; exact hL z hz
      have hcc : Ic (m + 2) k = nI cnt := (congrFun (o.1 (m + 2) (by omega) (by omega)) _).trans hc
      have e1k : Ic (m + 1) k = I (m + 1) k := congrFun (o.1 (m + 1) (by omega) (by omega)) _
      have eRc : eqR (rE I m L k) (rE Ic m L k) := eqR_mem (fun f h4 h11 => o.1 (m + f) (by omega) (by omega))
      have goOn : ∀ (X2 : XS) (I5 : MI) (J5 : MJ) (z8 z9 : Option Value), bpl S f p X = some X2 → GM9 m base (I (m + 1) k) I J f X2 I5 J5 → V x g 0 0 I5 J5 182 [some (.ref m), some (.int (nI k)), some (.int (nI base)), some (.int until_), some (.int own), some (.int (nI X2.1)), some (.int (nI f)), some (.int (nI p)), z8, z9] [] := by
        intro X2 I5 J5 z8 z9 e1 hX2
        refine v_iinc C (nI (p + 1)) dMo_gather_182 rfl (nI_1 p) (ble rfl) rfl ?_
        refine v_goto C 37 dMo_gather_185 (by decide) ?_
        have hle := (bpl_BInv hS bi hf hp e1).2.1
        refine V.drop (lv2 := [some (.ref m), some (.int (nI k)), some (.int (nI base)), some (.int until_), some (.int own), some (.int (nI X2.1)), some (.int (nI f)), some (.int (nI (p + 1))), none, none]) ?_ ⟨rfl, rfl, rfl, rfl, rfl, rfl, rfl, rfl, trivial⟩
        refine ih (p + 1) f X2 I5 J5 (by omega) (by omega) hX2 (fun X3 I6 J6 e2 h2 h3 => hk2 X3 I6 J6 ?_ h2 (by omega)) (fun e2 => hno ?_)
        · simp only [bpls, e1]
          exact e2
        · simp only [bpls, e1]
          exact e2
      refine v_iload C dMo_gather_37 rfl ?_
      refine v_aload_n C 0 dMo_gather_39 rfl rfl ?_
      refine v_getr C cfMo (k := 3) (by assumption) rfl (by assumption) w677 dMo_gather_40 ?_
      refine v_iload_n C 1 dMo_gather_43 rfl rfl ?_
      refine v_ialdN C (q := (k)) (by assumption) (by first | rfl | (simp only [n16I, n2001I, nI_add, pk_mul, nI_1])) (by omega) (by decide) (hcc) dMo_gather_44 ?_
      refine v_icmp_ge C 188 dMo_gather_45 (by decide) (fun h => absurd h (nI_ge (by omega) (by omega))) (fun _ => ?_)
      refine v_aload_n C 0 dMo_gather_48 rfl rfl ?_
      refine v_iload_n C 1 dMo_gather_49 rfl rfl ?_
      refine v_iload C dMo_gather_50 rfl ?_
      refine v_iload_n C 2 dMo_gather_52 rfl rfl ?_
      refine v_iload C dMo_gather_53 rfl ?_
      refine v_iaddN C dMo_gather_55 ((nI_add _ _)) ?_
      refine v_iload_n C 3 dMo_gather_56 rfl rfl ?_
      refine v_iload C dMo_gather_57 rfl ?_
      refine v_callV C (c_Mo_can (kl x) (kD x) g Ic Jc (sz := ksz) until_ own hM hLc hk hp (by omega) hcc hc2 (by rw [(xr f hf).1]; exact jis_sz kg.1) kg.1.2.2 (by rw [e1k, (xr f hf).2]; exact mo f hf)) mwMo_can cfMo (by assumption) w830 ws27 w828 rfl rfl (ble rfl) (ble rfl) (ble rfl) (ble rfl) (ble rfl) dMo_gather_59 ?_
      rintro v g4 I4 J4 ⟨rfl, o4, h⟩
      rw [e1k, (xr f hf).1, (xr f hf).2, rstp_congr eRc, eS] at h
      have xr4 : XR I4 J4 m base X := fun i hi => by rw [o4.1 _ (by omega), o4.2.2 _ (by omega)]; exact xr i hi
      have xw4 : XW J4 m X := fun i hi => by rw [o4.2.2 _ (by omega)]; exact xw i hi
      have oo4 : offG m base I J I4 J4 := o.tr o4.G
      rcases h with ⟨e1, rfl⟩ | ⟨c, e1, rfl, e2, e3, e4⟩
      · refine v_if_eq C 182 dMo_gather_62 (by decide) (fun _ => ?_) (fun h => absurd rfl h)
        exact goOn X I4 J4 none none (by unfold bpl; rw [e1]) ⟨bi, mo, xr4, xw4, oo4⟩
      · refine v_if_eq C 182 dMo_gather_62 (by decide) (fun h => absurd h (by decide)) (fun _ => ?_)
        obtain ⟨m2, sz2, kg2, ksz2, kpk⟩ := hS.pk hp kg e1
        have exl : bpl S f p X = xadd X f (keyB (X.2.1 f) p c.2.1) c.1 := by
          unfold bpl
          rw [e1]
        refine v_aload_n C 0 dMo_gather_65 rfl rfl ?_
        refine v_getr C cfMo (k := 16) (by assumption) rfl (by assumption) w690 dMo_gather_66 ?_
        refine v_iload_n C 2 dMo_gather_69 rfl rfl ?_
        refine v_iload C dMo_gather_70 rfl ?_
        refine v_iaddN C dMo_gather_72 ((nI_add _ _)) ?_
        refine v_ialdN C (q := (base + f)) (by assumption) (by first | rfl | (simp only [n16I, n2001I, nI_add, pk_mul, nI_1])) (by omega) (by decide) ((xr4 f hf).1) dMo_gather_73 ?_
        refine v_ldc C w875 dMo_gather_74 ?_
        refine v_iand C dMo_gather_76 ?_
        refine v_iconst C 1 dMo_gather_77 (by decide) ?_
        refine v_iload C dMo_gather_78 rfl ?_
        refine v_ishl C dMo_gather_80 ?_
        refine v_ior C dMo_gather_81 ?_
        refine v_aload_n C 0 dMo_gather_82 rfl rfl ?_
        refine v_getiN C cfMo (k := 28) (by assumption) rfl w702 dMo_gather_83 (e3) ?_
        refine v_bipush C 16 dMo_gather_86 (by decide) ?_
        refine v_ishl C dMo_gather_88 ?_
        refine v_ior C dMo_gather_89 ?_
        refine v_istore C dMo_gather_90 (ble rfl) rfl ?_
        obtain ⟨r, hr⟩ : ∃ r, f + 1 + r = X.1 := ⟨X.1 - (f + 1), by omega⟩
        refine v_aload_n C 0 dMo_gather_92 rfl rfl ?_
        refine v_iload_n C 2 dMo_gather_93 rfl rfl ?_
        refine v_iload C dMo_gather_94 rfl ?_
        refine v_iaddN C dMo_gather_96 ((nI_add _ _)) ?_
        refine v_iconst C 1 dMo_gather_97 (by decide) ?_
        refine v_iaddN C dMo_gather_98 ((nI_1 _)) ?_
        refine v_iload_n C 2 dMo_gather_99 rfl rfl ?_
        refine v_iload C dMo_gather_100 rfl ?_
        refine v_iaddN C dMo_gather_102 ((show _ = nI (base + f + 1 + r) by rw [nI_add]; congr 1; omega)) ?_
        refine v_iload C dMo_gather_103 rfl ?_
        refine v_cVi C (c_Mo_search (kl x) (kD x) _ I4 J4 (fr := base + f + 1) (q := r) (keyB (X.2.1 f) p c.2.1) hM (by omega)) mwMo_search cfMo (by assumption) w878 ws37 w876 rfl rfl (ble rfl) (ble rfl) (ble rfl) (ble rfl) (ble rfl) dMo_gather_105 ?_
        have esr : srch (I4 (m + 13)) (J4 (m + 14)) (keyB (X.2.1 f) p c.2.1) (J4 m 27) r (base + f + 1) = base + srch X.2.1 X.2.2.1 (keyB (X.2.1 f) p c.2.1) c.1 r (f + 1) := by
          rw [e2]
          exact srch_base (b := base) r (f + 1) (fun i h1 h2 => xr4 i (by omega))
        rw [esr]
        have adv : ∀ (X2 : XS) (I5 : MI) (J5 : MJ) (z8 z9 : Option Value), xadd X f (keyB (X.2.1 f) p c.2.1) c.1 = some X2 → (∀ i, i < X2.1 → MapOK (I (m + 1) k) (X2.2.2.1 i)) → XR I5 J5 m base X2 → XW J5 m X2 → offG m base I4 J4 I5 J5 → V x _ 0 0 I5 J5 182 [some (.ref m), some (.int (nI k)), some (.int (nI base)), some (.int until_), some (.int own), some (.int (nI X2.1)), some (.int (nI f)), some (.int (nI p)), z8, z9] [] := fun X2 I5 J5 z8 z9 a1 a2 a3 a4 a5 => goOn X2 I5 J5 z8 z9 (exl.trans a1) ⟨(xadd_BInv bi hf kg2 kpk a1).1, a2, a3, a4, oo4.tr a5⟩
        rcases srch_lk bi hf kpk hr with ⟨n1, n2⟩ | ⟨i, n0, n1, n2⟩
        · rw [n2]
          refine v_iload_n C 2 dMo_gather_108 rfl rfl ?_
          refine v_isubN C dMo_gather_109 ((show _ = nI X.1 by rw [pk_sub (by omega)]; congr 1; omega)) ?_
          refine v_istore C dMo_gather_110 (ble rfl) rfl ?_
          refine v_iload C dMo_gather_112 rfl ?_
          refine v_sipush C 2000 dMo_gather_114 (by decide) ?_
          by_cases h2000 : X.1 = 2000
          · rw [h2000]
            refine v_icmp_ne C 123 dMo_gather_117 (by decide) (fun h => absurd rfl h) (fun _ => ?_)
            refine v_bipush C (-2) dMo_gather_120 (by decide) ?_
            have hnone : bpls S f (q + 1) p X = none := by
              have e5 : xadd X f (keyB (X.2.1 f) p c.2.1) c.1 = none := by
                unfold xadd
                rw [if_pos n1, if_neg (by omega)]
              simp only [bpls, exl, e5]
            exact v_iret C M dMo_gather_122 (ble rfl) (ble rfl) ⟨rfl, oo4, Or.inl ⟨hno hnone, rfl⟩⟩
          · have hlt : X.1 < 2000 := by omega
            refine v_icmp_ne C 123 dMo_gather_117 (by decide) (fun _ => ?_) (fun h => absurd h (fun e => h2000 ((nI_eq (a := X.1) (b := 2000) (by omega) (by decide)).mp e)))
            refine v_iload C dMo_gather_123 rfl ?_
            refine v_iload C dMo_gather_125 rfl ?_
            refine v_icmp_ne C 165 dMo_gather_127 (by decide) (fun h => absurd rfl h) (fun _ => ?_)
            refine v_aload_n C 0 dMo_gather_130 rfl rfl ?_
            refine v_getr C cfMo (k := 16) (by assumption) rfl (by assumption) w690 dMo_gather_131 ?_
            refine v_iload_n C 2 dMo_gather_134 rfl rfl ?_
            refine v_iload C dMo_gather_135 rfl ?_
            refine v_iaddN C dMo_gather_137 ((nI_add _ _)) ?_
            refine v_iload C dMo_gather_138 rfl ?_
            refine v_iastN C (q := (base + X.1)) (by assumption) (by first | rfl | (simp only [n16I, n2001I, nI_add, pk_mul, nI_1])) (by omega) (by decide) dMo_gather_140 ?_
            refine v_aload_n C 0 dMo_gather_141 rfl rfl ?_
            refine v_getr C cfMo (k := 17) (by assumption) rfl (by assumption) w691 dMo_gather_142 ?_
            refine v_iload_n C 2 dMo_gather_145 rfl rfl ?_
            refine v_iload C dMo_gather_146 rfl ?_
            refine v_iaddN C dMo_gather_148 ((nI_add _ _)) ?_
            refine v_aload_n C 0 dMo_gather_149 rfl rfl ?_
            refine v_getlN C cfMo (k := 27) (by assumption) rfl w701 dMo_gather_150 (e2) ?_
            refine v_lastN C (q := (base + X.1)) (by assumption) (by first | rfl | (simp only [n16I, n2001I, nI_add, pk_mul, nI_1])) (by omega) (by decide) dMo_gather_153 ?_
            refine v_aload_n C 0 dMo_gather_154 rfl rfl ?_
            refine v_getr C cfMo (k := 19) (by assumption) rfl (by assumption) w693 dMo_gather_155 ?_
            refine v_iload C dMo_gather_158 rfl ?_
            refine v_lconst C 0 dMo_gather_160 (by decide) ?_
            refine v_lastN C (q := (X.1)) (by assumption) (by first | rfl | (simp only [n16I, n2001I, nI_add, pk_mul, nI_1])) (by omega) (by decide) dMo_gather_161 ?_
            refine v_iinc C (nI (X.1 + 1)) dMo_gather_162 rfl (nI_1 X.1) (ble rfl) rfl ?_
            refine v_aload_n C 0 dMo_gather_165 rfl rfl ?_
            refine v_getr C cfMo (k := 19) (by assumption) rfl (by assumption) w693 dMo_gather_166 ?_
            refine v_iload C dMo_gather_169 rfl ?_
            first | refine v_dup2_11 C dMo_gather_171 rfl rfl ?_ | refine v_dup2_2 C dMo_gather_171 rfl ?_
            refine v_laldN C (q := (X.1)) (by assumption) (by first | rfl | (simp only [n16I, n2001I, nI_add, pk_mul, nI_1])) (by omega) (by decide) ((s2_self _ _ _ _)) dMo_gather_172 ?_
            refine v_aload_n C 0 dMo_gather_173 rfl rfl ?_
            refine v_getr C cfMo (k := 19) (by assumption) rfl (by assumption) w693 dMo_gather_174 ?_
            refine v_iload C dMo_gather_177 rfl ?_
            refine v_laldN C (q := (f)) (by assumption) (by first | rfl | (simp only [n16I, n2001I, nI_add, pk_mul, nI_1])) (by omega) (by decide) ((show _ = X.2.2.2 f by rw [s2_k (by omega), s2_a (by omega)]; exact xw4 f hf)) dMo_gather_179 ?_
            refine v_ladd C dMo_gather_180 ?_
            refine v_lastN C (q := (X.1)) (by assumption) (by first | rfl | (simp only [n16I, n2001I, nI_add, pk_mul, nI_1])) (by omega) (by decide) dMo_gather_181 ?_
            rw [show (0 : Int64) + X.2.2.2 f = X.2.2.2 f from Int64.zero_add _, s2_s2]
            have ea : xadd X f (keyB (X.2.1 f) p c.2.1) c.1 = some (X.1 + 1, upF X.2.1 X.1 (keyB (X.2.1 f) p c.2.1), upF X.2.2.1 X.1 c.1, upF X.2.2.2 X.1 (X.2.2.2 f)) := by
              unfold xadd
              rw [if_pos n1, if_pos hlt]
            refine adv _ _ _ _ _ ea (fun i hi => ?_) (fun i hi => ?_) (fun i hi => ?_) ⟨fun b b1 b2 => s2_off b2, fun z _ _ => by rw [s2_a (by omega)], fun i hi => s2_k (by omega), fun b b1 b2 b3 => by rw [s2_off b3, s2_off b2], fun i hi => by rw [s2_a (by omega), s2_k (by omega)]⟩
            · have hi : i < X.1 + 1 := hi
              show MapOK _ (upF X.2.2.1 X.1 c.1 i)
              unfold upF
              by_cases hq : i = X.1
              · rw [if_pos hq]
                exact hSM _ _ p c hp e1 (mo f hf)
              · rw [if_neg hq]
                exact mo i (by omega)
            · have hi : i < X.1 + 1 := hi
              show _ = upF X.2.1 X.1 (keyB (X.2.1 f) p c.2.1) i ∧ _ = upF X.2.2.1 X.1 c.1 i
              unfold upF
              by_cases hq : i = X.1
              · subst hq
                rw [if_pos rfl, if_pos rfl, s2_self, s2_a (by omega), s2_self]
                exact ⟨rfl, rfl⟩
              · rw [if_neg hq, if_neg hq, s2_k (by omega), s2_a (show m + 14 ≠ m + 16 by omega), s2_k (by omega)]
                exact xr4 i (by omega)
            · have hi : i < X.1 + 1 := hi
              show _ = upF X.2.2.2 X.1 (X.2.2.2 f) i
              unfold upF
              by_cases hq : i = X.1
              · subst hq
                rw [if_pos rfl, s2_self]
              · rw [if_neg hq, s2_k hq, s2_a (by omega)]
                exact xw4 i (by omega)
        · rw [n2]
          have hic : ix (nI i) = i := nI_clamp (by omega)
          refine v_iload_n C 2 dMo_gather_108 rfl rfl ?_
          refine v_isubN C dMo_gather_109 ((show _ = nI i by rw [pk_sub (by omega)]; congr 1; omega)) ?_
          refine v_istore C dMo_gather_110 (ble rfl) rfl ?_
          refine v_iload C dMo_gather_112 rfl ?_
          refine v_sipush C 2000 dMo_gather_114 (by decide) ?_
          refine v_icmp_ne C 123 dMo_gather_117 (by decide) (fun _ => ?_) (fun h => absurd h (fun e => absurd ((nI_eq (a := i) (b := 2000) (by omega) (by decide)).mp e) (by omega)))
          refine v_iload C dMo_gather_123 rfl ?_
          refine v_iload C dMo_gather_125 rfl ?_
          refine v_icmp_ne C 165 dMo_gather_127 (by decide) (fun _ => ?_) (fun h => absurd h (fun e => absurd ((nI_eq (by omega) (by omega)).mp e) (by omega)))
          refine v_aload_n C 0 dMo_gather_165 rfl rfl ?_
          refine v_getr C cfMo (k := 19) (by assumption) rfl (by assumption) w693 dMo_gather_166 ?_
          refine v_iload C dMo_gather_169 rfl ?_
          first | refine v_dup2_11 C dMo_gather_171 rfl rfl ?_ | refine v_dup2_2 C dMo_gather_171 rfl ?_
          refine v_laldN C (q := (i)) (by assumption) (by first | rfl | (simp only [n16I, n2001I, nI_add, pk_mul, nI_1])) (by omega) (by decide) ((xw4 i n0)) dMo_gather_172 ?_
          refine v_aload_n C 0 dMo_gather_173 rfl rfl ?_
          refine v_getr C cfMo (k := 19) (by assumption) rfl (by assumption) w693 dMo_gather_174 ?_
          refine v_iload C dMo_gather_177 rfl ?_
          refine v_laldN C (q := (f)) (by assumption) (by first | rfl | (simp only [n16I, n2001I, nI_add, pk_mul, nI_1])) (by omega) (by decide) ((xw4 f hf)) dMo_gather_179 ?_
          refine v_ladd C dMo_gather_180 ?_
          refine v_lastN C (q := (i)) (by assumption) (by first | rfl | (simp only [n16I, n2001I, nI_add, pk_mul, nI_1])) (by omega) (by decide) dMo_gather_181 ?_
          have ea : xadd X f (keyB (X.2.1 f) p c.2.1) c.1 = some (X.1, X.2.1, X.2.2.1, upF X.2.2.2 i (X.2.2.2 i + X.2.2.2 f)) := by
            unfold xadd
            rw [n1, if_neg (lk_ne (by omega)), hic]
          refine adv (X.1, X.2.1, X.2.2.1, upF X.2.2.2 i (X.2.2.2 i + X.2.2.2 f)) _ _ _ _ ea mo (fun j hj => ?_) (fun j hj => ?_) ⟨fun _ _ _ => rfl, fun _ _ _ => rfl, fun _ _ => rfl, fun b b1 b2 b3 => s2_off b3, fun i hi => by rw [s2_a (by omega)]⟩
          · rw [s2_a (by omega)]
            exact xr4 j hj
          · show _ = upF X.2.2.2 i (X.2.2.2 i + X.2.2.2 f) j
            unfold upF
            by_cases hq : j = i
            · subst hq
              rw [if_pos rfl, s2_self]
            · rw [if_neg hq, s2_k hq]
              exact xw4 j hj
  have outer : ∀ (q f : Nat) (X : XS) (Ic : MI) (Jc : MJ), f + q = 2000 → (f < X.1 → BInv f X) → X.1 ≤ 2000 → (∀ i, i < X.1 → MapOK (I (m + 1) k) (X.2.2.1 i)) → XR Ic Jc m base X → XW Jc m X → offG m base I J Ic Jc → bfs S cnt q f X = brun S cnt → V x g 0 0 Ic Jc 27 [some (.ref m), some (.int (nI k)), some (.int (nI base)), some (.int until_), some (.int own), some (.int (nI X.1)), some (.int (nI f)), none, none, none] [] := by
    intro q
    induction q with
    | zero =>
      intro f X Ic Jc h1 bi hn mo xr xw o he
      refine v_iload C dMo_gather_27 rfl ?_
      refine v_iload C dMo_gather_29 rfl ?_
      refine v_icmp_ge C 194 dMo_gather_31 (by decide) (fun _ => ?_) (fun h => absurd (nI_le (by omega) (by omega)) h)
      refine v_iload C dMo_gather_194 rfl ?_
      exact v_iret C M dMo_gather_196 (ble rfl) (ble rfl) ⟨rfl, o, Or.inr ⟨X, he.symm, rfl, xr, xw⟩⟩
    | succ q ih =>
      intro f X Ic Jc h1 bi hn mo xr xw o he
      refine v_iload C dMo_gather_27 rfl ?_
      refine v_iload C dMo_gather_29 rfl ?_
      by_cases hf : f < X.1
      · refine v_icmp_ge C 194 dMo_gather_31 (by decide) (fun h => absurd h (nI_ge hf (by omega))) (fun _ => ?_)
        refine v_iconst C 0 dMo_gather_34 (by decide) ?_
        refine v_istore C dMo_gather_35 (ble rfl) rfl ?_
        refine inner cnt 0 f X Ic Jc (by omega) hf ⟨bi hf, mo, xr, xw, o⟩ (fun X2 I5 J5 e2 h2 h3 => ?_) (fun e2 => ?_)
        · refine v_iinc C (nI (f + 1)) dMo_gather_188 rfl (nI_1 f) (ble rfl) rfl ?_
          refine v_goto C 27 dMo_gather_191 (by decide) ?_
          refine ih (f + 1) X2 I5 J5 (by omega) (fun h => h2.1.next h) h2.1.1.1 h2.2.1 h2.2.2.1 h2.2.2.2.1 h2.2.2.2.2 ?_
          rw [← he]
          simp only [bfs, if_pos hf, e2]
        · rw [← he]
          simp only [bfs, if_pos hf, e2]
      · refine v_icmp_ge C 194 dMo_gather_31 (by decide) (fun _ => ?_) (fun h => absurd (nI_le (by omega) (by omega)) h)
        refine v_iload C dMo_gather_194 rfl ?_
        refine v_iret C M dMo_gather_196 (ble rfl) (ble rfl) ⟨rfl, o, Or.inr ⟨X, ?_, rfl, xr, xw⟩⟩
        rw [← he]
        simp only [bfs, if_neg hf]
  exact outer 2000 0 X0 _ _ (by omega) (fun _ => X0_BInv) (by decide) base0.2.1 base0.2.2.1 base0.2.2.2.1 base0.2.2.2.2 rfl
