/-! a walk that has ended -/
def Has (X : XS) (key : Int32) (w : Int64) : Prop := ∃ i, i < X.1 ∧ X.2.1 i = key ∧ X.2.2.1 i = w
theorem preX.has {X X2 : XS} (h : preX X X2) {key : Int32} {w : Int64} (hh : Has X key w) : Has X2 key w := by
  obtain ⟨i, h1, h2, h3⟩ := hh
  exact ⟨i, by have := h.1; omega, (h.2 i h1).1.trans h2, (h.2 i h1).2.trans h3⟩
theorem xadd_has {X X2 : XS} {f : Nat} {key : Int32} {w : Int64} (hb : X.1 ≤ 2000) (e : xadd X f key w = some X2) : Has X2 key w := by
  unfold xadd at e
  split at e
  · split at e
    · cases e
      exact ⟨X.1, Nat.lt_succ_self _, by show upF X.2.1 X.1 key X.1 = key; unfold upF; rw [if_pos rfl], by show upF X.2.2.1 X.1 w X.1 = w; unfold upF; rw [if_pos rfl]⟩
    · cases e
  · rename_i hl
    cases e
    rcases lk_spec X.2.1 X.2.2.1 key w X.1 with ⟨n1, -⟩ | ⟨i, n1, -, n3, n4⟩
    · exact absurd n1 hl
    · exact ⟨i, n1, n3, n4⟩
def FInv (X : XS) : Prop := KInv X ∧ (∀ i j, i ≤ j → j < X.1 → pk9 (X.2.1 i) ≤ pk9 (X.2.1 j)) ∧ ∀ i j, i < j → j < X.1 → ¬ (X.2.1 i = X.2.1 j ∧ X.2.2.1 i = X.2.2.1 j)
theorem BInv.F {f : Nat} {X : XS} (h : BInv f X) : FInv X := ⟨h.1, h.2.1, h.2.2.2⟩
def Clo (S : SF) (cnt f : Nat) (X : XS) : Prop := ∀ z, z < f → z < X.1 → ∀ p, p < cnt → ∀ c, S (X.2.1 z) (X.2.2.1 z) p = some c → Has X (keyB (X.2.1 z) p c.2.1) c.1
theorem bpls_has {S : SF} (hS : SOK S) {f : Nat} : ∀ (q p : Nat) (X X2 : XS), p + q ≤ 16 → BInv f X → f < X.1 → bpls S f q p X = some X2 → ∀ z, p ≤ z → z < p + q → ∀ c, S (X.2.1 f) (X.2.2.1 f) z = some c → Has X2 (keyB (X.2.1 f) z c.2.1) c.1
  | 0, p, _, _, _, _, _, _ => fun z h1 h2 => by omega
  | q + 1, p, X, X2, hp, h, hf, e => by
    simp only [bpls] at e
    cases hx : bpl S f p X with
    | none => rw [hx] at e; cases e
    | some X3 =>
      rw [hx] at e
      obtain ⟨h3, p3⟩ := bpl_BInv hS h hf (by omega) hx
      have e := show bpls S f q (p + 1) X3 = some X2 from e
      have hf3 : f < X3.1 := by have := p3.1; omega
      obtain ⟨h4, p4⟩ := bpls_BInv hS q (p + 1) X3 X2 (by omega) h3 hf3 e
      have ek := (p3.2 f hf).1
      have ew := (p3.2 f hf).2
      intro z h1 h2 c hc
      rcases Nat.lt_or_ge p z with h9 | h9
      · have := bpls_has hS q (p + 1) X3 X2 (by omega) h3 hf3 e z (by omega) (by omega) c (by rw [ek, ew]; exact hc)
        rw [ek] at this
        exact this
      · have hz : z = p := by omega
        subst hz
        unfold bpl at hx
        rw [hc] at hx
        exact p4.has (xadd_has h.1.1 hx)
theorem bfs_fin {S : SF} (hS : SOK S) {cnt : Nat} (hc : cnt ≤ 16) : ∀ (q f : Nat) (X X2 : XS), f + q = 2000 → FInv X → (f < X.1 → BInv f X) → Clo S cnt f X → bfs S cnt q f X = some X2 → FInv X2 ∧ Clo S cnt X2.1 X2 ∧ preX X X2
  | 0, f, X, X2, hq, hF, _, hC, e => by
    have e : some X = some X2 := e
    cases e
    have := hF.1.1
    exact ⟨hF, fun z h1 h2 => hC z (by omega) h2, preX.rf X⟩
  | q + 1, f, X, X2, hq, hF, hB, hC, e => by
    simp only [bfs] at e
    split at e
    · rename_i hf
      cases hx : bpls S f cnt 0 X with
      | none => rw [hx] at e; cases e
      | some X3 =>
        rw [hx] at e
        obtain ⟨h3, p3⟩ := bpls_BInv hS cnt 0 X X3 (by omega) (hB hf) hf hx
        have hh := bpls_has hS cnt 0 X X3 (by omega) (hB hf) hf hx
        have hC3 : Clo S cnt (f + 1) X3 := fun z h1 h2 p hp c hc => by
          have hzX : z < X.1 := by omega
          rw [(p3.2 z hzX).1, (p3.2 z hzX).2] at hc
          rw [(p3.2 z hzX).1]
          rcases Nat.lt_or_ge z f with h9 | h9
          · exact p3.has (hC z h9 hzX p hp c hc)
          · have hz : z = f := by omega
            subst hz
            exact hh p (Nat.zero_le _) (by omega) c hc
        obtain ⟨r1, r2, r3⟩ := bfs_fin hS hc q (f + 1) X3 X2 (by omega) h3.F (fun h => h3.next h) hC3 e
        exact ⟨r1, r2, p3.tr r3⟩
    · cases e
      rename_i hf
      exact ⟨hF, fun z h1 h2 => hC z (by omega) h2, preX.rf X⟩
theorem brun_fin {S : SF} (hS : SOK S) {cnt : Nat} (hc : cnt ≤ 16) {X : XS} (e : brun S cnt = some X) : FInv X ∧ Clo S cnt X.1 X ∧ 0 < X.1 ∧ X.2.1 0 = 0 ∧ X.2.2.1 0 = 0 := by
  obtain ⟨h1, h2, h3⟩ := bfs_fin hS hc 2000 0 X0 X (by omega) X0_BInv.F (fun _ => X0_BInv) (fun z hz => absurd hz (Nat.not_lt_zero z)) e
  exact ⟨h1, h2, h3.1, (h3.2 0 (by decide)).1, (h3.2 0 (by decide)).2⟩
theorem lk_has {X : XS} {key : Int32} {w : Int64} (h : Has X key w) : ∃ i, i < X.1 ∧ lk X.2.1 X.2.2.1 key w X.1 = nI i ∧ X.2.1 i = key ∧ X.2.2.1 i = w := by
  obtain ⟨j, j1, j2, j3⟩ := h
  rcases lk_spec X.2.1 X.2.2.1 key w X.1 with ⟨-, n2⟩ | ⟨i, n1, n2, n3, n4⟩
  · exact absurd ⟨j2, j3⟩ (n2 j j1)
  · exact ⟨i, n1, n2, n3, n4⟩
theorem srch_has {X : XS} {f q : Nat} {key : Int32} {w : Int64} (h : FInv X) (hf : f < X.1) (hp : pk9 key = pk9 (X.2.1 f) + 1) (hq : f + 1 + q = X.1) (hh : Has X key w) : ∃ i, f < i ∧ i < X.1 ∧ lk X.2.1 X.2.2.1 key w X.1 = nI i ∧ srch X.2.1 X.2.2.1 key w q (f + 1) = i ∧ X.2.1 i = key ∧ X.2.2.1 i = w := by
  obtain ⟨s1, s2', s3⟩ := srch_spec X.2.1 X.2.2.1 key w q (f + 1)
  obtain ⟨i, n1, n2, n3, n4⟩ := lk_has hh
  have hfi : f < i := by
    rcases Nat.lt_or_ge f i with h9 | h9
    · exact h9
    · have := h.2.1 i f h9 hf
      rw [n3, hp] at this
      omega
  refine ⟨i, hfi, n1, n2, ?_, n3, n4⟩
  rcases Nat.lt_trichotomy (srch X.2.1 X.2.2.1 key w q (f + 1)) i with h9 | h9 | h9
  · rcases s3 with s3 | ⟨s3, s4, s5⟩
    · omega
    · exact absurd ⟨s4.trans n3.symm, s5.trans n4.symm⟩ (h.2.2 _ i h9 n1)
  · exact h9
  · exact absurd ⟨n3, n4⟩ (s2' i (by omega) h9)
def gtg (S : SF) (X : XS) (f p : Nat) : Int32 := match S (X.2.1 f) (X.2.2.1 f) p with
  | none => -1
  | some c => lk X.2.1 X.2.2.1 (keyB (X.2.1 f) p c.2.1) c.1 X.1
def hmG (e : Nat → Bool) (tg : Nat → Nat → Int32) (cnt : Nat) : Nat → (Nat → Int32) → Nat → Int32
  | 0, hop => hop
  | m + 1, hop => hmG e tg cnt m (upF hop m (hscan (tg m) hop cnt 0 (if e m = true then 1 else 0)))
def offE (m k : Nat) (I : MI) (J : MJ) (I2 : MI) (J2 : MJ) : Prop := (∀ b, b ≠ m → b ≠ m + 15 → I2 b = I b) ∧ (∀ q, q ≠ 28 → q ≠ 29 → I2 m q = I m q) ∧ (∀ i, i < 2001 * k ∨ 2001 * k + 2000 ≤ i → I2 (m + 15) i = I (m + 15) i) ∧ ∀ b, b ≠ m → J2 b = J b
theorem offM.E {m k : Nat} {I I2 : MI} {J J2 : MJ} (h : offM m I J I2 J2) : offE m k I J I2 J2 := ⟨fun b a _ => h.1 b a, h.2.1, fun i _ => by rw [h.1 _ (by omega)], h.2.2⟩
theorem offE.tr {m k : Nat} {I I2 I3 : MI} {J J2 J3 : MJ} (h : offE m k I J I2 J2) (h2 : offE m k I2 J2 I3 J3) : offE m k I J I3 J3 := ⟨fun b a c => (h2.1 b a c).trans (h.1 b a c), fun q a c => (h2.2.1 q a c).trans (h.2.1 q a c), fun i hi => (h2.2.2.1 i hi).trans (h.2.2.1 i hi), fun b a => (h2.2.2.2 b a).trans (h.2.2.2 b a)⟩
def enlQ (g : GM) (I : MI) (J : MJ) (m k cnt : Nat) (R : Nat → Nat → Int32) (S : SF) (X : XS) : Option Value → GM → MI → MJ → Prop := fun v g2 I2 J2 => v = none ∧ g2 = g ∧ offE m k I J I2 J2 ∧ ∃ h0, ∀ i, i < X.1 → I2 (m + 15) (2001 * k + i) = hmG (eB R cnt (I m 15) X) (gtg S X) cnt X.1 h0 i
theorem hscan01 {tg : Nat → Int32} {hop : Nat → Int32} : ∀ (q p : Nat) (h : Int32), (h = 0 ∨ h = 1) → (hscan tg hop q p h = 0 ∨ hscan tg hop q p h = 1)
  | 0, _, h, hh => hh
  | q + 1, p, h, hh => by
    simp only [hscan]
    split
    · exact hscan01 q (p + 1) _ (by split <;> simp)
    · exact hh
set_option maxHeartbeats 4000000 in
theorem c_Mo_enliven (l : Launch) (D : va_G) (g : GM) (I : MI) (J : MJ) {m k cnt : Nat} {L : Nat → Nat} {X : XS} (hM : MoAt g m) (hL : LsOK I m L) (hk : k < 6) (hc : I (m + 2) k = nI cnt) (hc2 : cnt ≤ 16) (hX : brun (rstp (rE I m L k) (fun j => L (16 * k + j)) (I (m + 1) k) cnt (I m 15) 0) cnt = some X) (hXM : ∀ i, i < X.1 → MapOK (I (m + 1) k) (X.2.2.1 i)) (hxr : XR I J m (2001 * k) X) (hfd : I (m + 18) k = nI X.1) : Ct l yMo_enliven bMo_enliven 6 none (rmN 4 104) D [.ref m, .int (nI k)] g I J (enlQ g I J m k cnt (rE I m L k) (rstp (rE I m L k) (fun j => L (16 * k + j)) (I (m + 1) k) cnt (I m 15) 0) X) := by
  refine Ct.of (by decide) (ble rfl) [some (.ref m), some (.int (nI k)), none, none, none, none] rfl ?_
  intro x C M
  obtain ⟨m0, m1, m2, m3, m4, m5, m6, m7, m8, m9, m10, m11, m12, m13, m14, m15, m16, m17, m18, m19, m20, m21, m22, m23, m24, m25, m26, f2, f3, f4, f6, f7, f8, f9, f10, f11, f12, f13, f14, f16, f17, f18, f19, f20, f21, f22, f23, f24, f25, f26, f32, f33, f34⟩ := id hM
  generalize eS : rstp (rE I m L k) (fun j => L (16 * k + j)) (I (m + 1) k) cnt (I m 15) 0 = S at M hX
  have hS : SOK S := by rw [← eS]; exact rstp_SOK _ _ _ _ _ _
  obtain ⟨hF, hClo, hpos, -, -⟩ := brun_fin hS hc2 hX
  have hXn := hF.1.1
  refine v_sipush C 2001 dMo_enliven_0 (by decide) ?_
  refine v_iload_n C 1 dMo_enliven_3 rfl rfl ?_
  refine v_imulN C dMo_enliven_4 ((pk_mul 2001 k)) ?_
  refine v_istore_n C 2 dMo_enliven_5 rfl (ble rfl) rfl ?_
  refine v_aload_n C 0 dMo_enliven_6 rfl rfl ?_
  refine v_getr C cfMo (k := 21) (by assumption) rfl (by assumption) w695 dMo_enliven_7 ?_
  refine v_iload_n C 1 dMo_enliven_10 rfl rfl ?_
  refine v_ialdN C (q := (k)) (by assumption) (by first | rfl | (simp only [n16I, n2001I, nI_add, pk_mul, nI_1])) (by omega) (by decide) (hfd) dMo_enliven_11 ?_
  refine v_iconst C 1 dMo_enliven_12 (by decide) ?_
  refine v_isub C dMo_enliven_13 ?_
  refine v_istore_n C 3 dMo_enliven_14 rfl (ble rfl) rfl ?_
  have loop : ∀ (p : Nat) (hop : Nat → Int32) (Ic : MI) (Jc : MJ) (z4 z5 : Option Value), p ≤ X.1 → (∀ i, p ≤ i → i < X.1 → hop i = 0 ∨ hop i = 1) → offE m k I J Ic Jc → (∀ i, i < X.1 → Ic (m + 15) (2001 * k + i) = hop i) → (∃ h0, hmG (eB (rE I m L k) cnt (I m 15) X) (gtg S X) cnt p hop = hmG (eB (rE I m L k) cnt (I m 15) X) (gtg S X) cnt X.1 h0) → V x g 0 0 Ic Jc 15 [some (.ref m), some (.int (nI k)), some (.int (nI (2001 * k))), some (.int (nI p - 1)), z4, z5] [] := by
    intro p
    induction p with
    | zero =>
      intro hop Ic Jc z4 z5 h0 h1 o h2 h3
      refine v_iload_n C 3 dMo_enliven_15 rfl rfl ?_
      refine v_if_lt C 152 dMo_enliven_16 (by decide) (fun _ => ?_) (fun h => absurd (by decide) h)
      obtain ⟨z, hz⟩ := h3
      exact v_vret C M dMo_enliven_152 (ble rfl) (ble rfl) ⟨rfl, rfl, o, z, fun i hi => by rw [h2 i hi, ← hz]; rfl⟩
    | succ p ih =>
      intro hop Ic Jc z4 z5 h0 h1 o h2 h3
      have hp : p < X.1 := by omega
      rw [nI_pred]
      have facts : ∀ (I4 : MI) (J4 : MJ), offE m k I J I4 J4 → LsOK I4 m L ∧ I4 (m + 2) k = nI cnt ∧ eqR (rE I m L k) (rE I4 m L k) ∧ I4 m 15 = I m 15 ∧ I4 (m + 1) k = I (m + 1) k ∧ (∀ i, i < X.1 → I4 (m + 13) (2001 * k + i) = X.2.1 i ∧ J4 (m + 14) (2001 * k + i) = X.2.2.1 i) ∧ I4 (m + 18) k = nI X.1 := by
        intro I4 J4 o4
        refine ⟨fun z hz => by rw [o4.1 (m + 3) (by omega) (by omega)]; exact hL z hz, by rw [o4.1 (m + 2) (by omega) (by omega)]; exact hc, eqR_mem (fun f h4 h11 => ?_), o4.2.1 15 (by decide) (by decide), by rw [o4.1 (m + 1) (by omega) (by omega)], fun i hi => by rw [o4.1 (m + 13) (by omega) (by omega), o4.2.2.2 (m + 14) (by omega)]; exact hxr i hi, by rw [o4.1 (m + 18) (by omega) (by omega)]; exact hfd⟩
        exact o4.1 (m + f) (by omega) (by omega)
      obtain ⟨fL, fc, fR, f15, f1, fX, f18⟩ := facts Ic Jc o
      refine v_iload_n C 3 dMo_enliven_15 rfl rfl ?_
      refine v_if_lt C 152 dMo_enliven_16 (by decide) (fun h => absurd h (nI_pos (by omega))) (fun _ => ?_)
      refine v_aload_n C 0 dMo_enliven_19 rfl rfl ?_
      refine v_getr C cfMo (k := 18) (by assumption) rfl (by assumption) w692 dMo_enliven_20 ?_
      refine v_iload_n C 2 dMo_enliven_23 rfl rfl ?_
      refine v_iload_n C 3 dMo_enliven_24 rfl rfl ?_
      refine v_iaddN C dMo_enliven_25 ((nI_add _ _)) ?_
      refine v_aload_n C 0 dMo_enliven_26 rfl rfl ?_
      refine v_iload_n C 1 dMo_enliven_27 rfl rfl ?_
      refine v_iload_n C 2 dMo_enliven_28 rfl rfl ?_
      refine v_iload_n C 3 dMo_enliven_29 rfl rfl ?_
      refine v_iaddN C dMo_enliven_30 ((nI_add _ _)) ?_
      refine v_aload_n C 0 dMo_enliven_31 rfl rfl ?_
      refine v_getiN C cfMo (k := 15) (by assumption) rfl w689 dMo_enliven_32 (f15) ?_
      refine v_cVi C (c_Mo_isEnd (kl x) (kD x) g Ic Jc (cnt := cnt) (L := L) (I m 15) hM fL hk (by omega) fc hc2) mwMo_isEnd cfMo (by assumption) w886 ws39 w884 rfl rfl (ble rfl) (ble rfl) (ble rfl) (ble rfl) (ble rfl) dMo_enliven_35 ?_
      have eE : (if rEnd (rE Ic m L k) cnt (I m 15) (Ic (m + 13) (2001 * k + p)) then (1 : Int32) else 0) = if eB (rE I m L k) cnt (I m 15) X p = true then 1 else 0 := by
        rw [(fX p hp).1]
        by_cases hq : rEnd (rE I m L k) cnt (I m 15) (X.2.1 p)
        · rw [if_pos ((rEnd_congr fR).mpr hq), if_pos (decide_eq_true hq)]
        · rw [if_neg (fun h => hq ((rEnd_congr fR).mp h)), if_neg (fun h => hq (of_decide_eq_true h))]
      rw [eE]
      generalize eh1 : (if eB (rE I m L k) cnt (I m 15) X p = true then (1 : Int32) else 0) = h1v
      have hh1 : h1v = 0 ∨ h1v = 1 := by rw [← eh1]; split <;> simp
      refine v_zastN C (q := (2001 * k + p)) (by assumption) (by first | rfl | (simp only [n16I, n2001I, nI_add, pk_mul, nI_1])) (by omega) (by decide) (by first | exact Or.inl rfl | exact Or.inr rfl | assumption) dMo_enliven_38 ?_
      refine v_iconst C 0 dMo_enliven_39 (by decide) ?_
      refine v_istore C dMo_enliven_40 (ble rfl) rfl ?_
      have places : ∀ (q i : Nat) (h : Int32) (I4 : MI) (J4 : MJ) (z5 : Option Value), i + q = cnt → (h = 0 ∨ h = 1) → hscan (gtg S X p) hop q i h = hscan (gtg S X p) hop cnt 0 h1v → offE m k I J I4 J4 → (∀ z, z < X.1 → I4 (m + 15) (2001 * k + z) = upF hop p h z) → V x g 0 0 I4 J4 42 [some (.ref m), some (.int (nI k)), some (.int (nI (2001 * k))), some (.int (nI p)), some (.int (nI i)), z5] [] := by
        have fin : ∀ (h : Int32) (I4 : MI) (J4 : MJ) (z4 z5 : Option Value), (h = 0 ∨ h = 1) → h = hscan (gtg S X p) hop cnt 0 h1v → offE m k I J I4 J4 → (∀ z, z < X.1 → I4 (m + 15) (2001 * k + z) = upF hop p h z) → V x g 0 0 I4 J4 146 [some (.ref m), some (.int (nI k)), some (.int (nI (2001 * k))), some (.int (nI p)), z4, z5] [] := by
          intro h I4 J4 z4 z5 hh he o4 ha
          refine v_iinc C (nI p - 1) dMo_enliven_146 rfl (dec1 _) (ble rfl) rfl ?_
          refine v_goto C 15 dMo_enliven_149 (by decide) ?_
          refine ih (upF hop p h) I4 J4 z4 z5 (by omega) (fun i i1 i2 => ?_) o4 ha ?_
          · unfold upF
            split
            · exact hh
            · exact h1 i (by omega) i2
          · obtain ⟨z, hz⟩ := h3
            refine ⟨z, ?_⟩
            rw [← hz, he, ← eh1]
            rfl
        intro q
        induction q with
        | zero =>
          intro i h I4 J4 z5 e1 hh he o4 ha
          obtain ⟨fL, fc, fR, f15, f1, fX, f18⟩ := facts I4 J4 o4
          refine v_iload C dMo_enliven_42 rfl ?_
          refine v_aload_n C 0 dMo_enliven_44 rfl rfl ?_
          refine v_getr C cfMo (k := 3) (by assumption) rfl (by assumption) w677 dMo_enliven_45 ?_
          refine v_iload_n C 1 dMo_enliven_48 rfl rfl ?_
          refine v_ialdN C (q := (k)) (by assumption) (by first | rfl | (simp only [n16I, n2001I, nI_add, pk_mul, nI_1])) (by omega) (by decide) (fc) dMo_enliven_49 ?_
          refine v_icmp_ge C 146 dMo_enliven_50 (by decide) (fun _ => ?_) (fun h => absurd (nI_le (by omega) (by omega)) h)
          exact fin h I4 J4 _ _ hh he o4 ha
        | succ q ihq =>
          intro i h I4 J4 z5 e1 hh he o4 ha
          obtain ⟨fL, fc, fR, f15, f1, fX, f18⟩ := facts I4 J4 o4
          have hi : i < 16 := by omega
          have hap : I4 (m + 15) (2001 * k + p) = h := by rw [ha p hp]; unfold upF; rw [if_pos rfl]
          refine v_iload C dMo_enliven_42 rfl ?_
          refine v_aload_n C 0 dMo_enliven_44 rfl rfl ?_
          refine v_getr C cfMo (k := 3) (by assumption) rfl (by assumption) w677 dMo_enliven_45 ?_
          refine v_iload_n C 1 dMo_enliven_48 rfl rfl ?_
          refine v_ialdN C (q := (k)) (by assumption) (by first | rfl | (simp only [n16I, n2001I, nI_add, pk_mul, nI_1])) (by omega) (by decide) (fc) dMo_enliven_49 ?_
          refine v_icmp_ge C 146 dMo_enliven_50 (by decide) (fun h => absurd h (nI_ge (by omega) (by omega))) (fun _ => ?_)
          refine v_aload_n C 0 dMo_enliven_53 rfl rfl ?_
          refine v_getr C cfMo (k := 18) (by assumption) rfl (by assumption) w692 dMo_enliven_54 ?_
          refine v_iload_n C 2 dMo_enliven_57 rfl rfl ?_
          refine v_iload_n C 3 dMo_enliven_58 rfl rfl ?_
          refine v_iaddN C dMo_enliven_59 ((nI_add _ _)) ?_
          refine v_zaldN C (q := (2001 * k + p)) (by assumption) (by first | rfl | (simp only [n16I, n2001I, nI_add, pk_mul, nI_1])) (by omega) (by decide) (hap) dMo_enliven_60 ?_
          by_cases hz : h = 0
          · subst hz
            refine v_if_ne C 146 dMo_enliven_61 (by decide) (fun h => absurd rfl h) (fun _ => ?_)
            refine v_aload_n C 0 dMo_enliven_64 rfl rfl ?_
            refine v_iload_n C 1 dMo_enliven_65 rfl rfl ?_
            refine v_iload C dMo_enliven_66 rfl ?_
            refine v_iload_n C 2 dMo_enliven_68 rfl rfl ?_
            refine v_iload_n C 3 dMo_enliven_69 rfl rfl ?_
            refine v_iaddN C dMo_enliven_70 ((nI_add _ _)) ?_
            refine v_aload_n C 0 dMo_enliven_71 rfl rfl ?_
            refine v_getiN C cfMo (k := 15) (by assumption) rfl w689 dMo_enliven_72 (f15) ?_
            refine v_iconst C 0 dMo_enliven_75 (by decide) ?_
            obtain ⟨km9, ksz, kg⟩ := hF.1.2 p hp
            refine v_callV C (c_Mo_can (kl x) (kD x) g I4 J4 (sz := ksz) (cnt := cnt) (L := L) (I m 15) 0 hM fL hk hi (by omega) fc hc2 (by rw [(fX p hp).1]; exact jis_sz kg.1) kg.1.2.2 (by rw [f1, (fX p hp).2]; exact hXM p hp)) mwMo_can cfMo (by assumption) w830 ws27 w828 rfl rfl (ble rfl) (ble rfl) (ble rfl) (ble rfl) (ble rfl) dMo_enliven_76 ?_
            rintro v g5 I5 J5 ⟨rfl, o5, hcan⟩
            rw [f1, (fX p hp).1, (fX p hp).2, rstp_congr fR, eS] at hcan
            have o6 : offE m k I J I5 J5 := o4.tr o5.E
            obtain ⟨gL, gc, gR, g15, g1, gX, g18⟩ := facts I5 J5 o6
            have ha5 : ∀ z, z < X.1 → I5 (m + 15) (2001 * k + z) = upF hop p 0 z := fun z hz => by rw [o5.1 (m + 15) (by omega)]; exact ha z hz
            rcases hcan with ⟨c1, rfl⟩ | ⟨c, c1, rfl, c2, c3, c4⟩
            · refine v_if_eq C 140 dMo_enliven_79 (by decide) (fun _ => ?_) (fun h => absurd rfl h)
              refine v_iinc C (nI (i + 1)) dMo_enliven_140 rfl (nI_1 i) (ble rfl) rfl ?_
              refine v_goto C 42 dMo_enliven_143 (by decide) ?_
              refine ihq (i + 1) 0 I5 J5 _ (by omega) (Or.inl rfl) ?_ o6 ha5
              rw [← he]
              simp only [hscan, if_pos]
              have et : gtg S X p i = -1 := by unfold gtg; rw [c1]
              rw [et, if_neg (fun h => h.1 rfl)]
            · refine v_if_eq C 140 dMo_enliven_79 (by decide) (fun h => absurd h (by decide)) (fun _ => ?_)
              obtain ⟨m2, sz2, kg2, ksz2, kpk⟩ := hS.pk hi kg c1
              obtain ⟨r, hr⟩ : ∃ r, p + 1 + r = X.1 := ⟨X.1 - (p + 1), by omega⟩
              obtain ⟨t, t1, t2, t3, t4, -, -⟩ := srch_has hF hp kpk hr (hClo p hp hp i (by omega) c c1)
              have et : gtg S X p i = nI t := by unfold gtg; rw [c1]; exact t3
              refine v_aload_n C 0 dMo_enliven_82 rfl rfl ?_
              refine v_getr C cfMo (k := 16) (by assumption) rfl (by assumption) w690 dMo_enliven_83 ?_
              refine v_iload_n C 2 dMo_enliven_86 rfl rfl ?_
              refine v_iload_n C 3 dMo_enliven_87 rfl rfl ?_
              refine v_iaddN C dMo_enliven_88 ((nI_add _ _)) ?_
              refine v_ialdN C (q := (2001 * k + p)) (by assumption) (by first | rfl | (simp only [n16I, n2001I, nI_add, pk_mul, nI_1])) (by omega) (by decide) ((gX p hp).1) dMo_enliven_89 ?_
              refine v_ldc C w875 dMo_enliven_90 ?_
              refine v_iand C dMo_enliven_92 ?_
              refine v_iconst C 1 dMo_enliven_93 (by decide) ?_
              refine v_iload C dMo_enliven_94 rfl ?_
              refine v_ishl C dMo_enliven_96 ?_
              refine v_ior C dMo_enliven_97 ?_
              refine v_aload_n C 0 dMo_enliven_98 rfl rfl ?_
              refine v_getiN C cfMo (k := 28) (by assumption) rfl w702 dMo_enliven_99 (c3) ?_
              refine v_bipush C 16 dMo_enliven_102 (by decide) ?_
              refine v_ishl C dMo_enliven_104 ?_
              refine v_ior C dMo_enliven_105 ?_
              refine v_istore C dMo_enliven_106 (ble rfl) rfl ?_
              refine v_aload_n C 0 dMo_enliven_108 rfl rfl ?_
              refine v_getr C cfMo (k := 18) (by assumption) rfl (by assumption) w692 dMo_enliven_109 ?_
              refine v_iload_n C 2 dMo_enliven_112 rfl rfl ?_
              refine v_iload_n C 3 dMo_enliven_113 rfl rfl ?_
              refine v_iaddN C dMo_enliven_114 ((nI_add _ _)) ?_
              refine v_aload_n C 0 dMo_enliven_115 rfl rfl ?_
              refine v_getr C cfMo (k := 18) (by assumption) rfl (by assumption) w692 dMo_enliven_116 ?_
              refine v_aload_n C 0 dMo_enliven_119 rfl rfl ?_
              refine v_iload_n C 2 dMo_enliven_120 rfl rfl ?_
              refine v_iload_n C 3 dMo_enliven_121 rfl rfl ?_
              refine v_iaddN C dMo_enliven_122 ((nI_add _ _)) ?_
              refine v_iconst C 1 dMo_enliven_123 (by decide) ?_
              refine v_iaddN C dMo_enliven_124 ((nI_1 _)) ?_
              refine v_iload_n C 2 dMo_enliven_125 rfl rfl ?_
              refine v_aload_n C 0 dMo_enliven_126 rfl rfl ?_
              refine v_getr C cfMo (k := 21) (by assumption) rfl (by assumption) w695 dMo_enliven_127 ?_
              refine v_iload_n C 1 dMo_enliven_130 rfl rfl ?_
              refine v_ialdN C (q := (k)) (by assumption) (by first | rfl | (simp only [n16I, n2001I, nI_add, pk_mul, nI_1])) (by omega) (by decide) (g18) dMo_enliven_131 ?_
              refine v_iaddN C dMo_enliven_132 ((show _ = nI (2001 * k + p + 1 + r) by rw [nI_add]; congr 1; omega)) ?_
              refine v_iload C dMo_enliven_133 rfl ?_
              refine v_cVi C (c_Mo_search (kl x) (kD x) _ I5 J5 (fr := 2001 * k + p + 1) (q := r) (keyB (X.2.1 p) i c.2.1) hM (by omega)) mwMo_search cfMo (by assumption) w878 ws37 w876 rfl rfl (ble rfl) (ble rfl) (ble rfl) (ble rfl) (ble rfl) dMo_enliven_135 ?_
              have esr : srch (I5 (m + 13)) (J5 (m + 14)) (keyB (X.2.1 p) i c.2.1) (J5 m 27) r (2001 * k + p + 1) = 2001 * k + t := by
                rw [c2, ← t4]
                exact srch_base (b := 2001 * k) r (p + 1) (fun j h1 h2 => gX j (by omega))
              rw [esr]
              have hht := h1 t t1 t2
              have eat : I5 (m + 15) (2001 * k + t) = hop t := by rw [ha5 t t2]; unfold upF; rw [if_neg (by omega)]
              refine v_zaldN C (q := (2001 * k + t)) (by assumption) (by first | rfl | (simp only [n16I, n2001I, nI_add, pk_mul, nI_1])) (by omega) (by decide) (eat) dMo_enliven_138 ?_
              refine v_zastN C (q := (2001 * k + p)) (by assumption) (by first | rfl | (simp only [n16I, n2001I, nI_add, pk_mul, nI_1])) (by omega) (by decide) (by first | exact Or.inl rfl | exact Or.inr rfl | assumption) dMo_enliven_139 ?_
              refine v_iinc C (nI (i + 1)) dMo_enliven_140 rfl (nI_1 i) (ble rfl) rfl ?_
              refine v_goto C 42 dMo_enliven_143 (by decide) ?_
              refine ihq (i + 1) (hop t) _ J5 _ (by omega) hht ?_ ?_ (fun z hz => ?_)
              · rw [← he]
                simp only [hscan, if_pos]
                rw [et]
                have ei : ix (nI t) = t := nI_clamp (by omega)
                rw [ei]
                rcases hht with hht | hht
                · rw [hht, if_neg (fun h => h.2 rfl)]
                · rw [hht, if_pos ⟨lk_ne (by omega), by decide⟩]
              · exact o6.tr ⟨fun b b1 b2 => s2_off b2, fun q _ _ => s2_a (by omega), fun j hj => s2_k (by omega), fun _ _ => rfl⟩
              · rw [s2_row]
                show (if _ then _ else _) = upF hop p (hop t) z
                unfold upF
                by_cases hq : z = p
                · rw [if_pos (by omega), if_pos hq]
                · rw [if_neg (by omega), if_neg hq, ha5 z hz]
                  unfold upF
                  rw [if_neg hq]
          · refine v_if_ne C 146 dMo_enliven_61 (by decide) (fun _ => ?_) (fun h => absurd h hz)
            refine fin h I4 J4 _ _ hh ?_ o4 ha
            rw [← he]
            simp only [hscan, if_neg hz]
      refine places cnt 0 h1v _ Jc _ (by omega) hh1 rfl (o.tr ⟨fun b b1 b2 => s2_off b2, fun q _ _ => s2_a (by omega), fun j hj => s2_k (by omega), fun _ _ => rfl⟩) (fun z hz => ?_)
      rw [s2_row]
      show (if _ then _ else _) = upF hop p h1v z
      unfold upF
      by_cases hq : z = p
      · rw [if_pos (by omega), if_pos hq]
      · rw [if_neg (by omega), if_neg hq]
        exact h2 z hz
  exact loop X.1 (fun i => I (m + 15) (2001 * k + i)) I J none none (Nat.le_refl _) (fun i h1 h2 => by omega) ⟨fun _ _ _ => rfl, fun _ _ _ => rfl, fun _ _ => rfl, fun _ _ => rfl⟩ (fun _ _ => rfl) ⟨_, rfl⟩
