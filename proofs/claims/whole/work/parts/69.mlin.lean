theorem eB_congr {R R2 : Nat → Nat → Int32} {cnt : Nat} {until_ : Int32} {X : XS} (h : eqR R R2) : eB R2 cnt until_ X = eB R cnt until_ X := by
  funext p
  exact decide_eq_decide.mpr (rEnd_congr h)
theorem jif_congr {R R2 : Nat → Nat → Int32} {cnt : Nat} {until_ : Int32} {X : XS} (h : eqR R R2) : (if ∀ p, p < X.1 → ¬ rEnd R2 cnt until_ (X.2.1 p) then (0 : Int32) else 1) = if ∀ p, p < X.1 → ¬ rEnd R cnt until_ (X.2.1 p) then 0 else 1 := by
  by_cases hq : ∀ p, p < X.1 → ¬ rEnd R cnt until_ (X.2.1 p)
  · rw [if_pos hq, if_pos (fun p hp hz => hq p hp ((rEnd_congr h).mp hz))]
  · rw [if_neg hq, if_neg (fun hz => hq (fun p hp hy => hz p hp ((rEnd_congr h).mpr hy)))]
theorem rfnd_congr {R R2 : Nat → Nat → Int32} {N : Nat → Nat} {kind : Int32} {cnt : Nat} {until_ : Int32} {m k : Nat} {I : MI} {J : MJ} (h : eqR R R2) (hf : rfnd R N kind cnt until_ m k I J) : rfnd R2 N kind cnt until_ m k I J := by
  unfold rfnd at hf ⊢
  rw [rstp_congr h]
  rcases hf with hf | ⟨X, h1, h2, h3, h4, h5, h6⟩
  · exact Or.inl hf
  · refine Or.inr ⟨X, h1, h2, by rw [jif_congr h]; exact h3, by rw [eB_congr h]; exact h4, by rw [eB_congr h]; exact h5, h6⟩
theorem rfnd_mem {R : Nat → Nat → Int32} {N : Nat → Nat} {kind : Int32} {cnt : Nat} {until_ : Int32} {m k : Nat} {I I2 : MI} {J J2 : MJ} (hc : cnt ≤ 16) (h1 : I2 (m + 18) k = I (m + 18) k) (h2 : I2 (m + 19) k = I (m + 19) k) (h3 : I2 (m + 21) k = I (m + 21) k) (h4 : J2 (m + 20) k = J (m + 20) k) (h5 : ∀ i, 2001 * k ≤ i → i < 2001 * k + 2000 → I2 (m + 13) i = I (m + 13) i ∧ J2 (m + 14) i = J (m + 14) i) (hf : rfnd R N kind cnt until_ m k I J) : rfnd R N kind cnt until_ m k I2 J2 := by
  unfold rfnd at hf ⊢
  rw [h1, h2, h3, h4]
  rcases hf with hf | ⟨X, g1, g2, g3, g4, g5, g6⟩
  · exact Or.inl hf
  · refine Or.inr ⟨X, g1, g2, g3, g4, g5, fun i hi => ?_⟩
    have hb := brun_le (rstp_SOK R N kind cnt until_ 0) hc g1
    have h := h5 (2001 * k + i) (by omega) (by omega)
    rw [h.1, h.2]
    exact g6 i hi
/-- what holds of what is known of an object -/
def MK (I : MI) (J : MJ) (m k cnt : Nat) (L : Nat → Nat) : Prop := I (m + 2) k = nI cnt ∧ cnt ≤ 16 ∧ (I (m + 17) k = 0 ∨ I (m + 17) k = 1) ∧ (I (m + 17) k = 1 → rfnd (rE I m L k) (fun j => L (16 * k + j)) (I (m + 1) k) cnt (I m 15) m k I J)
/-- what looking leaves -/
def lkS (m : Nat) (I : MI) (J : MJ) (I2 : MI) (J2 : MJ) : Prop := (∀ b, b ≠ m → b ≠ m + 13 → b ≠ m + 17 → b ≠ m + 18 → b ≠ m + 19 → b ≠ m + 21 → I2 b = I b) ∧ (∀ q, q ≠ 28 → q ≠ 29 → I2 m q = I m q) ∧ ∀ b, b ≠ m → b ≠ m + 14 → b ≠ m + 16 → b ≠ m + 20 → J2 b = J b
theorem lkS.rf {m : Nat} {I : MI} {J : MJ} : lkS m I J I J := ⟨fun _ _ _ _ _ _ _ => rfl, fun _ _ _ => rfl, fun _ _ _ _ _ => rfl⟩
theorem lkS.tr {m : Nat} {I I2 I3 : MI} {J J2 J3 : MJ} (h : lkS m I J I2 J2) (h2 : lkS m I2 J2 I3 J3) : lkS m I J I3 J3 := ⟨fun b a c d e f k => (h2.1 b a c d e f k).trans (h.1 b a c d e f k), fun q a c => (h2.2.1 q a c).trans (h.2.1 q a c), fun b a c d e => (h2.2.2 b a c d e).trans (h.2.2 b a c d e)⟩
theorem offK.S {m k : Nat} {I I2 : MI} {J J2 : MJ} (h : offK m k I J I2 J2) : lkS m I J I2 J2 := ⟨h.1, h.2.1, h.2.2.2.2.1⟩
theorem lkS.R {m k : Nat} {I I2 : MI} {J J2 : MJ} (L : Nat → Nat) (h : lkS m I J I2 J2) : eqR (rE I m L k) (rE I2 m L k) := eqR_mem (fun f h4 h11 => h.1 (m + f) (by omega) (by omega) (by omega) (by omega) (by omega) (by omega))
theorem MK_mem {I I2 : MI} {J J2 : MJ} {m k cnt : Nat} {L : Nat → Nat} (hs : lkS m I J I2 J2) (h0 : I2 (m + 17) k = I (m + 17) k) (h1 : I2 (m + 18) k = I (m + 18) k) (h2 : I2 (m + 19) k = I (m + 19) k) (h3 : I2 (m + 21) k = I (m + 21) k) (h4 : J2 (m + 20) k = J (m + 20) k) (h5 : ∀ i, 2001 * k ≤ i → i < 2001 * k + 2000 → I2 (m + 13) i = I (m + 13) i ∧ J2 (m + 14) i = J (m + 14) i) (h : MK I J m k cnt L) : MK I2 J2 m k cnt L := by
  obtain ⟨a1, a2, a3, a4⟩ := h
  refine ⟨by rw [hs.1 (m + 2) (by omega) (by omega) (by omega) (by omega) (by omega) (by omega)]; exact a1, a2, by rw [h0]; exact a3, fun hk => ?_⟩
  rw [h0] at hk
  rw [hs.1 (m + 1) (by omega) (by omega) (by omega) (by omega) (by omega) (by omega), hs.2.1 15 (by decide) (by decide)]
  exact rfnd_congr (hs.R L) (rfnd_mem a2 h1 h2 h3 h4 h5 (a4 hk))
theorem look_MK {g g2 : GM} {I I2 : MI} {J J2 : MJ} {m k cnt : Nat} {L : Nat → Nat} {v : Option Value} (h : MK I J m k cnt L) (hq : lookQ g I J m k cnt L v g2 I2 J2) : MK I2 J2 m k cnt L ∧ I2 (m + 17) k = 1 ∧ lkS m I J I2 J2 ∧ ∀ j c, j ≠ k → MK I J m j c L → MK I2 J2 m j c L := by
  obtain ⟨-, -, hq⟩ := hq
  obtain ⟨a1, a2, a3, a4⟩ := id h
  rcases hq with ⟨q1, rfl, rfl⟩ | ⟨q0, q1, q2, q3⟩
  · refine ⟨h, ?_, lkS.rf, fun _ _ _ h => h⟩
    rcases a3 with a3 | a3
    · exact absurd a3 q1
    · exact a3
  · have hs := q2.S
    refine ⟨⟨?_, a2, Or.inr q1, fun _ => ?_⟩, q1, hs, fun j c hj hm => ?_⟩
    · rw [hs.1 (m + 2) (by omega) (by omega) (by omega) (by omega) (by omega) (by omega)]; exact a1
    · rw [hs.1 (m + 1) (by omega) (by omega) (by omega) (by omega) (by omega) (by omega), hs.2.1 15 (by decide) (by decide)]
      exact rfnd_congr (hs.R L) q3
    · have hb := q2.2.2.2.1 j hj
      refine MK_mem hs hb.1 hb.2.1 hb.2.2.1 hb.2.2.2 (q2.2.2.2.2.2.2 j hj) (fun i i1 i2 => ?_) hm
      have hd : i < 2001 * k ∨ 2001 * k + 2000 ≤ i := by omega
      exact ⟨q2.2.2.1 i hd, q2.2.2.2.2.2.1 i hd⟩
theorem rfnd_j {R : Nat → Nat → Int32} {N : Nat → Nat} {kind : Int32} {cnt : Nat} {until_ : Int32} {m k : Nat} {I : MI} {J : MJ} (h : rfnd R N kind cnt until_ m k I J) : I (m + 19) k = rjd R N kind cnt until_ 0 := by
  unfold rjd
  rcases h with ⟨h1, -, h3, -⟩ | ⟨X, h1, -, h3, -⟩
  · rw [h1]; exact h3
  · rw [h1]; exact h3
theorem rjd_congr {R R2 : Nat → Nat → Int32} {N : Nat → Nat} {kind : Int32} {cnt : Nat} {until_ own : Int32} (h : eqR R R2) : rjd R2 N kind cnt until_ own = rjd R N kind cnt until_ own := by
  unfold rjd
  rw [rstp_congr h]
  cases brun (rstp R N kind cnt until_ own) cnt with
  | none => rfl
  | some X => exact jif_congr h
def rlin (j : Nat → Int32) : Nat → Nat → Int32 → Int32
  | 0, _, all => all
  | n + 1, k, all => rlin j n (k + 1) (if j k = 0 ∨ all = 0 then 0 else if j k = -2 then -2 else all)
abbrev rjM (I : MI) (m : Nat) (L : Nat → Nat) (cnt : Nat → Nat) (k : Nat) : Int32 := rjd (rE I m L k) (fun j => L (16 * k + j)) (I (m + 1) k) (cnt k) (I m 15) 0
def mliQ (g : GM) (I : MI) (J : MJ) (m no : Nat) (L : Nat → Nat) (cnt : Nat → Nat) : Option Value → GM → MI → MJ → Prop := fun v g2 I2 J2 => g2 = g ∧ v = some (.int (rlin (rjM I m L cnt) no 0 1)) ∧ lkS m I J I2 J2 ∧ ∀ k, k < no → MK I2 J2 m k (cnt k) L ∧ I2 (m + 17) k = 1
set_option maxHeartbeats 4000000 in
theorem c_Mo_linearity (l : Launch) (D : va_G) (g : GM) (I : MI) (J : MJ) {m no : Nat} {L cnt : Nat → Nat} (hM : MoAt g m) (hL : LsOK I m L) (hno : I m 1 = nI no) (hno6 : no ≤ 6) (hK : ∀ k, k < no → MK I J m k (cnt k) L) : Ct l yMo_linearity bMo_linearity 3 (some .int) (rmN 6 159) D [.ref m] g I J (mliQ g I J m no L cnt) := by
  refine Ct.of (by decide) (ble rfl) [some (.ref m), none, none] rfl ?_
  intro x C M
  obtain ⟨m0, m1, m2, m3, m4, m5, m6, m7, m8, m9, m10, m11, m12, m13, m14, m15, m16, m17, m18, m19, m20, m21, m22, m23, m24, m25, m26, f2, f3, f4, f6, f7, f8, f9, f10, f11, f12, f13, f14, f16, f17, f18, f19, f20, f21, f22, f23, f24, f25, f26, f32, f33, f34⟩ := id hM
  refine v_iconst C 1 dMo_linearity_0 (by decide) ?_
  refine v_istore_n C 1 dMo_linearity_1 rfl (ble rfl) rfl ?_
  refine v_iconst C 0 dMo_linearity_2 (by decide) ?_
  refine v_istore_n C 2 dMo_linearity_3 rfl (ble rfl) rfl ?_
  have loop : ∀ (q k : Nat) (all : Int32) (Ic : MI) (Jc : MJ), k + q = no → rlin (rjM I m L cnt) q k all = rlin (rjM I m L cnt) no 0 1 → lkS m I J Ic Jc → (∀ j, j < no → MK Ic Jc m j (cnt j) L) → (∀ j, j < k → Ic (m + 17) j = 1) → V x g 0 0 Ic Jc 4 [some (.ref m), some (.int all), some (.int (nI k))] [] := by
    intro q
    induction q with
    | zero =>
      intro k all Ic Jc h1 he hs hk hl
      refine v_iload_n C 2 dMo_linearity_4 rfl rfl ?_
      refine v_aload_n C 0 dMo_linearity_5 rfl rfl ?_
      refine v_getiN C cfMo (k := 1) (by assumption) rfl w675 dMo_linearity_6 (((hs.2.1 1 (by decide) (by decide)).trans hno)) ?_
      refine v_icmp_ge C 58 dMo_linearity_9 (by decide) (fun _ => ?_) (fun h => absurd (nI_le (by omega) (by omega)) h)
      refine v_iload_n C 1 dMo_linearity_58 rfl rfl ?_
      exact v_iret C M dMo_linearity_59 (ble rfl) (ble rfl) ⟨rfl, by rw [← he]; rfl, hs, fun j hj => ⟨hk j hj, hl j (by omega)⟩⟩
    | succ q ih =>
      intro k all Ic Jc h1 he hs hk hl
      have hkn : k < no := by omega
      have hk6 : k < 6 := by omega
      have hLc : LsOK Ic m L := fun z hz => by rw [hs.1 (m + 3) (by omega) (by omega) (by omega) (by omega) (by omega) (by omega)]; exact hL z hz
      refine v_iload_n C 2 dMo_linearity_4 rfl rfl ?_
      refine v_aload_n C 0 dMo_linearity_5 rfl rfl ?_
      refine v_getiN C cfMo (k := 1) (by assumption) rfl w675 dMo_linearity_6 (((hs.2.1 1 (by decide) (by decide)).trans hno)) ?_
      refine v_icmp_ge C 58 dMo_linearity_9 (by decide) (fun h => absurd h (nI_ge hkn (by omega))) (fun _ => ?_)
      refine v_aload_n C 0 dMo_linearity_12 rfl rfl ?_
      refine v_iload_n C 2 dMo_linearity_13 rfl rfl ?_
      refine v_callV C (c_Mo_look (kl x) (kD x) g Ic Jc hM hLc hk6 (hk k hkn).1 (hk k hkn).2.1) mwMo_look cfMo (by assumption) w822 ws25 w820 rfl rfl (ble rfl) (ble rfl) (ble rfl) (ble rfl) (ble rfl) dMo_linearity_14 ?_
      intro v g2 I2 J2 hq
      have hv := hq.1
      subst hv
      have hg := hq.2.1
      subst hg
      obtain ⟨s1, s2', s3, s4⟩ := look_MK (hk k hkn) hq
      have hs2 := hs.tr s3
      have hk2 : ∀ j, j < no → MK I2 J2 m j (cnt j) L := fun j hj => by
        by_cases hjk : j = k
        · rw [hjk]; exact s1
        · exact s4 j _ hjk (hk j hj)
      have hl2 : ∀ j, j < k + 1 → I2 (m + 17) j = 1 := fun j hj => by
        by_cases hjk : j = k
        · rw [hjk]; exact s2'
        · rcases hq.2.2 with ⟨-, e1, -⟩ | ⟨-, -, e1, -⟩
          · rw [e1]; exact hl j (by omega)
          · rw [(e1.2.2.2.1 j hjk).1]; exact hl j (by omega)
      have ej : I2 (m + 19) k = rjM I m L cnt k := by
        rw [rfnd_j (s1.2.2.2 s2'), rjd_congr (hs2.R L), hs2.1 (m + 1) (by omega) (by omega) (by omega) (by omega) (by omega) (by omega), hs2.2.1 15 (by decide) (by decide)]
      have nxt : ∀ a : Int32, a = (if rjM I m L cnt k = 0 ∨ all = 0 then 0 else if rjM I m L cnt k = -2 then -2 else all) → V x g2 0 0 I2 J2 51 [some (.ref m), some (.int all), some (.int (nI k))] [.int a] := by
        intro a ea
        refine v_istore_n C 1 dMo_linearity_51 rfl (ble rfl) rfl ?_
        refine v_iinc C (nI (k + 1)) dMo_linearity_52 rfl (nI_1 k) (ble rfl) rfl ?_
        refine v_goto C 4 dMo_linearity_55 (by decide) ?_
        refine ih (k + 1) a I2 J2 (by omega) ?_ hs2 hk2 hl2
        rw [← he, ea]
        rfl
      refine v_aload_n C 0 dMo_linearity_17 rfl rfl ?_
      refine v_getr C cfMo (k := 22) (by assumption) rfl (by assumption) w696 dMo_linearity_18 ?_
      refine v_iload_n C 2 dMo_linearity_21 rfl rfl ?_
      refine v_ialdN C (q := (k)) (by assumption) (by first | rfl | (simp only [n16I, n2001I, nI_add, pk_mul, nI_1])) (by omega) (by decide) (ej) dMo_linearity_22 ?_
      refine v_if_eq C 30 dMo_linearity_23 (by decide) (fun c23 => ?_) (fun c23 => ?_)
      · refine v_iconst C 0 dMo_linearity_30 (by decide) ?_
        refine v_goto C 51 dMo_linearity_31 (by decide) ?_
        exact nxt 0 (by rw [if_pos (Or.inl c23)])
      · refine v_iload_n C 1 dMo_linearity_26 rfl rfl ?_
        refine v_if_ne C 34 dMo_linearity_27 (by decide) (fun c27 => ?_) (fun c27 => ?_)
        · refine v_aload_n C 0 dMo_linearity_34 rfl rfl ?_
          refine v_getr C cfMo (k := 22) (by assumption) rfl (by assumption) w696 dMo_linearity_35 ?_
          refine v_iload_n C 2 dMo_linearity_38 rfl rfl ?_
          refine v_ialdN C (q := (k)) (by assumption) (by first | rfl | (simp only [n16I, n2001I, nI_add, pk_mul, nI_1])) (by omega) (by decide) (ej) dMo_linearity_39 ?_
          refine v_bipush C (-2) dMo_linearity_40 (by decide) ?_
          have hno2 : ¬ (rjM I m L cnt k = 0 ∨ all = 0) := by
            rintro (h | h)
            · exact c23 h
            · exact c27 h
          refine v_icmp_ne C 50 dMo_linearity_42 (by decide) (fun c42 => ?_) (fun c42 => ?_)
          · refine v_iload_n C 1 dMo_linearity_50 rfl rfl ?_
            exact nxt _ (by rw [if_neg hno2, if_neg c42])
          · refine v_bipush C (-2) dMo_linearity_45 (by decide) ?_
            refine v_goto C 51 dMo_linearity_47 (by decide) ?_
            exact nxt _ (by rw [if_neg hno2, if_pos c42])
        · refine v_iconst C 0 dMo_linearity_30 (by decide) ?_
          refine v_goto C 51 dMo_linearity_31 (by decide) ?_
          exact nxt 0 (by rw [if_pos (Or.inr c27)])
  exact loop no 0 1 I J (by omega) rfl lkS.rf hK (fun j hj => absurd hj (Nat.not_lt_zero j))
theorem MK_s2 {I : MI} {J : MJ} {m k cnt : Nat} {L : Nat → Nat} (q : Nat) (v : Int32) (hq : q ≠ 15) (h : MK I J m k cnt L) : MK (s2 I m q v) J m k cnt L := by
  obtain ⟨a1, a2, a3, a4⟩ := h
  have o : ∀ b, b ≠ m → s2 I m q v b = I b := fun b hb => s2_off hb
  refine ⟨by rw [o (m + 2) (by omega)]; exact a1, a2, by rw [o (m + 17) (by omega)]; exact a3, fun hk => ?_⟩
  rw [o (m + 17) (by omega)] at hk
  rw [o (m + 1) (by omega), s2_k (Ne.symm hq)]
  exact rfnd_congr (rE_eqR_s2 I m L k q v) (rfnd_mem a2 (by rw [o _ (by omega)]) (by rw [o _ (by omega)]) (by rw [o _ (by omega)]) rfl (fun i _ _ => ⟨by rw [o _ (by omega)], rfl⟩) (a4 hk))
theorem c_Mo_linear (l : Launch) (D : va_G) (g : GM) (I : MI) (J : MJ) {m no : Nat} {L cnt : Nat → Nat} (hM : MoAt g m) (hL : LsOK I m L) (hno : I m 1 = nI no) (hno6 : no ≤ 6) (hK : ∀ k, k < no → MK I J m k (cnt k) L) : Ct l yMo_linear bMo_linear 1 (some .int) (rmN 7 181) D [.ref m] g I J (fun v g2 I2 J2 => mliQ g (s2 I m 0 0) J m no L cnt v g2 I2 J2) := by
  refine Ct.of (by decide) (ble rfl) [some (.ref m)] rfl ?_
  intro x C M
  obtain ⟨m0, m1, m2, m3, m4, m5, m6, m7, m8, m9, m10, m11, m12, m13, m14, m15, m16, m17, m18, m19, m20, m21, m22, m23, m24, m25, m26, f2, f3, f4, f6, f7, f8, f9, f10, f11, f12, f13, f14, f16, f17, f18, f19, f20, f21, f22, f23, f24, f25, f26, f32, f33, f34⟩ := id hM
  refine v_aload_n C 0 dMo_linear_0 rfl rfl ?_
  refine v_iconst C 0 dMo_linear_1 (by decide) ?_
  refine v_puti C cfMo (k := 0) (by assumption) rfl w674 rfl rfl rfl dMo_linear_2 ?_
  refine v_aload_n C 0 dMo_linear_5 rfl rfl ?_
  refine v_callV C (c_Mo_linearity (kl x) (kD x) g (s2 I m 0 0) J (no := no) (L := L) (cnt := cnt) hM (hL.s2 0 0) (by rw [s2_k (by decide)]; exact hno) hno6 (fun k hk => MK_s2 0 0 (by decide) (hK k hk))) mwMo_linearity cfMo (by assumption) w919 ws41 w917 rfl rfl (ble rfl) (ble rfl) (ble rfl) (ble rfl) (ble rfl) dMo_linear_6 ?_
  intro v g2 I2 J2 hq
  have hg := hq.1
  subst hg
  have hv := hq.2.1
  subst hv
  exact v_iret C M dMo_linear_9 (ble rfl) (ble rfl) hq
