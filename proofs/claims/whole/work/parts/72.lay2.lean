/-- a property of words that every step keeps -/
theorem xadd_P {P : Int64 → Prop} {X X2 : XS} {f : Nat} {key : Int32} {w : Int64} (h : ∀ i, i < X.1 → P (X.2.2.1 i)) (hw : P w) (e : xadd X f key w = some X2) : ∀ i, i < X2.1 → P (X2.2.2.1 i) := by
  unfold xadd at e
  split at e
  · split at e
    · cases e
      intro i hi
      have hi : i < X.1 + 1 := hi
      show P (upF X.2.2.1 X.1 w i)
      unfold upF
      by_cases hq : i = X.1
      · rw [if_pos hq]; exact hw
      · rw [if_neg hq]; exact h i (by omega)
    · cases e
  · cases e
    exact h
theorem bpls_P {S : SF} (hS : SOK S) {P : Int64 → Prop} (hP : ∀ key w p c, p < 16 → S key w p = some c → P w → P c.1) {f : Nat} : ∀ (q p : Nat) (X X2 : XS), p + q ≤ 16 → BInv f X → f < X.1 → (∀ i, i < X.1 → P (X.2.2.1 i)) → bpls S f q p X = some X2 → ∀ i, i < X2.1 → P (X2.2.2.1 i)
  | 0, _, X, X2, _, _, _, h, e => by
    have e : some X = some X2 := e
    cases e
    exact h
  | q + 1, p, X, X2, hp, hb, hf, h, e => by
    simp only [bpls] at e
    cases hx : bpl S f p X with
    | none => rw [hx] at e; cases e
    | some X3 =>
      rw [hx] at e
      obtain ⟨h3, p3⟩ := bpl_BInv hS hb hf (by omega) hx
      have h9 : ∀ i, i < X3.1 → P (X3.2.2.1 i) := by
        unfold bpl at hx
        split at hx
        · cases hx; exact h
        · rename_i c hc
          exact xadd_P h (hP _ _ p c (by omega) hc (h f hf)) hx
      exact bpls_P hS hP q (p + 1) X3 X2 (by omega) h3 (by have := p3.1; omega) h9 e
theorem bfs_P {S : SF} (hS : SOK S) {P : Int64 → Prop} (hP : ∀ key w p c, p < 16 → S key w p = some c → P w → P c.1) {cnt : Nat} (hc : cnt ≤ 16) : ∀ (q f : Nat) (X X2 : XS), (f < X.1 → BInv f X) → (∀ i, i < X.1 → P (X.2.2.1 i)) → bfs S cnt q f X = some X2 → ∀ i, i < X2.1 → P (X2.2.2.1 i)
  | 0, _, X, X2, _, h, e => by
    have e : some X = some X2 := e
    cases e
    exact h
  | q + 1, f, X, X2, hB, h, e => by
    simp only [bfs] at e
    split at e
    · rename_i hf
      cases hx : bpls S f cnt 0 X with
      | none => rw [hx] at e; cases e
      | some X3 =>
        rw [hx] at e
        obtain ⟨h3, p3⟩ := bpls_BInv hS cnt 0 X X3 (by omega) (hB hf) hf hx
        exact bfs_P hS hP hc q (f + 1) X3 X2 (fun h => h3.next h) (bpls_P hS hP cnt 0 X X3 (by omega) (hB hf) hf h hx) e
    · cases e
      exact h
theorem brun_P {S : SF} (hS : SOK S) {P : Int64 → Prop} (hP : ∀ key w p c, p < 16 → S key w p = some c → P w → P c.1) {cnt : Nat} (hc : cnt ≤ 16) (h0 : P 0) {X : XS} (e : brun S cnt = some X) : ∀ i, i < X.1 → P (X.2.2.1 i) := bfs_P hS hP hc _ _ _ _ (fun _ => X0_BInv) (fun _ _ => h0) e
theorem MapOK_0 (kind : Int32) : MapOK kind 0 := fun _ a => ⟨0, by decide, by
  obtain ⟨q, hq, eq⟩ := a7 a
  rw [rmH_fld hq eq]
  have e0 : fld 0 (5 * q) 5 = 0 := fld_eq (by decide) (fun j _ => by rw [gb_0]; simp)
  rw [e0]⟩
theorem brun_MapOK {R : Nat → Nat → Int32} {N : Nat → Nat} {kind : Int32} {cnt : Nat} {until_ own : Int32} (hc : cnt ≤ 16) {X : XS} (e : brun (rstp R N kind cnt until_ own) cnt = some X) : ∀ i, i < X.1 → MapOK kind (X.2.2.1 i) := brun_P (rstp_SOK _ _ _ _ _ _) (P := MapOK kind) (fun _ _ _ _ hp h hw => rstp_MapOK hp h hw) hc (MapOK_0 kind) e
theorem hmG01 {e : Nat → Bool} {tg : Nat → Nat → Int32} {cnt N : Nat} : ∀ (n : Nat) (hop : Nat → Int32), n ≤ N → (∀ i, n ≤ i → i < N → hop i = 0 ∨ hop i = 1) → ∀ i, i < N → (hmG e tg cnt n hop i = 0 ∨ hmG e tg cnt n hop i = 1)
  | 0, hop, _, h => fun i hi => h i (Nat.zero_le _) hi
  | n + 1, hop, hn, h => by
    simp only [hmG]
    refine hmG01 n _ (by omega) (fun i h1 h2 => ?_)
    unfold upF
    split
    · exact hscan01 cnt 0 _ (by split <;> simp)
    · exact h i (by omega) h2
abbrev kS (I : MI) (m : Nat) (L cnt : Nat → Nat) (k : Nat) : SF := rstp (rE I m L k) (fun j => L (16 * k + j)) (I (m + 1) k) (cnt k) (I m 15) 0
def mkG (I : MI) (m : Nat) (L cnt : Nat → Nat) (no np : Nat) (ow pl : Nat → Nat) (X : Nat → XS) (h0 : Nat → Nat → Int32) : GD := (no, np, ow, pl, fun x y => decide (bfr I m (I m 15) 0 x y), kS I m L cnt, X, fun k => hmG (eB (rE I m L k) (cnt k) (I m 15) (X k)) (gtg (kS I m L cnt k) (X k)) (cnt k) (X k).1 (h0 k), fun k => eB (rE I m L k) (cnt k) (I m 15) (X k))
def layS (m : Nat) (I : MI) (J : MJ) (I2 : MI) (J2 : MJ) : Prop := (∀ b, b ≠ m → b ≠ m + 13 → b ≠ m + 15 → b ≠ m + 17 → b ≠ m + 18 → b ≠ m + 19 → b ≠ m + 21 → b ≠ m + 24 → b ≠ m + 25 → b ≠ m + 26 → I2 b = I b) ∧ (∀ q, q ≠ 28 → q ≠ 29 → q ≠ 30 → q ≠ 31 → I2 m q = I m q) ∧ ∀ b, b ≠ m → b ≠ m + 14 → b ≠ m + 16 → b ≠ m + 20 → J2 b = J b
theorem lkS.L {m : Nat} {I I2 : MI} {J J2 : MJ} (h : lkS m I J I2 J2) : layS m I J I2 J2 := ⟨fun b a1 a2 _ a4 a5 a6 a7 _ _ _ => h.1 b a1 a2 a4 a5 a6 a7, fun q a b _ _ => h.2.1 q a b, h.2.2⟩
/-- what enlivening and the row leave -/
def qsm (m : Nat) (I : MI) (J : MJ) (I2 : MI) (J2 : MJ) : Prop := (∀ b, b ≠ m → b ≠ m + 15 → b ≠ m + 24 → b ≠ m + 25 → b ≠ m + 26 → I2 b = I b) ∧ (∀ q, q ≠ 28 → q ≠ 29 → q ≠ 30 → q ≠ 31 → I2 m q = I m q) ∧ ∀ b, b ≠ m → J2 b = J b
theorem qsm.tr {m : Nat} {I I2 I3 : MI} {J J2 J3 : MJ} (h : qsm m I J I2 J2) (h2 : qsm m I2 J2 I3 J3) : qsm m I J I3 J3 := ⟨fun b a1 a2 a3 a4 a5 => (h2.1 b a1 a2 a3 a4 a5).trans (h.1 b a1 a2 a3 a4 a5), fun q a1 a2 a3 a4 => (h2.2.1 q a1 a2 a3 a4).trans (h.2.1 q a1 a2 a3 a4), fun b a => (h2.2.2 b a).trans (h.2.2 b a)⟩
theorem gsame.q {m : Nat} {I I2 : MI} {J J2 : MJ} (h : gsame m I J I2 J2) : qsm m I J I2 J2 := ⟨fun b a1 _ a3 a4 a5 => h.1 b a1 a3 a4 a5, fun q a b _ c => h.2.1 q a b c, h.2.2⟩
theorem MK_q {I I2 : MI} {J J2 : MJ} {m k cnt : Nat} {L : Nat → Nat} (hs : qsm m I J I2 J2) (h : MK I J m k cnt L) : MK I2 J2 m k cnt L := by
  obtain ⟨a1, a2, a3, a4⟩ := h
  have o : ∀ c, 0 < c → c < 24 → c ≠ 15 → I2 (m + c) = I (m + c) := fun c c0 c1 c2 => hs.1 _ (by omega) (by omega) (by omega) (by omega) (by omega)
  refine ⟨by rw [o 2 (by decide) (by decide) (by decide)]; exact a1, a2, by rw [o 17 (by decide) (by decide) (by decide)]; exact a3, fun hk => ?_⟩
  rw [o 17 (by decide) (by decide) (by decide)] at hk
  rw [o 1 (by decide) (by decide) (by decide), hs.2.1 15 (by decide) (by decide) (by decide) (by decide)]
  refine rfnd_congr (eqR_mem (fun f h4 h11 => o f (by omega) (by omega) (by omega))) (rfnd_mem a2 (by rw [o 18 (by decide) (by decide) (by decide)]) (by rw [o 19 (by decide) (by decide) (by decide)]) (by rw [o 21 (by decide) (by decide) (by decide)]) (by rw [hs.2.2 (m + 20) (by omega)]) (fun i _ _ => ⟨by rw [o 13 (by decide) (by decide) (by decide)], by rw [hs.2.2 (m + 14) (by omega)]⟩) (a4 hk))
def opM (I : MI) (m no np : Nat) (L cnt ow pl : Nat → Nat) : Prop := ∀ x, x < np → I (m + 5) x = nI (ow x) ∧ ow x < no ∧ pl x < cnt (ow x) ∧ L (16 * ow x + pl x) = x ∧ ∀ j, j < pl x → L (16 * ow x + j) ≠ x
theorem rlin_1 {j : Nat → Int32} : ∀ (n k : Nat) (all : Int32), rlin j n k all = 1 → (all = 1) ∧ ∀ i, k ≤ i → i < k + n → j i ≠ 0 ∧ j i ≠ -2
  | 0, _, all, h => ⟨h, fun i h1 h2 => by omega⟩
  | n + 1, k, all, h => by
    simp only [rlin] at h
    obtain ⟨h1, h2⟩ := rlin_1 n (k + 1) _ h
    split at h1
    · exact absurd h1 (by decide)
    · rename_i hq
      split at h1
      · exact absurd h1 (by decide)
      · rename_i hr
        refine ⟨h1, fun i i1 i2 => ?_⟩
        rcases Nat.lt_or_ge k i with h9 | h9
        · exact h2 i h9 (by omega)
        · have : i = k := by omega
          subst this
          exact ⟨fun e => hq (Or.inl e), hr⟩
def layQ (g : GM) (I : MI) (J : MJ) (m no np : Nat) (L cnt ow pl : Nat → Nat) (X : Nat → XS) : Option Value → GM → MI → MJ → Prop := fun v g2 I2 J2 => v = some (.int 1) ∧ g2 = g ∧ (∃ (h0 : Nat → Nat → Int32) (B : BS), grow (mkG I m L cnt no np ow pl X h0) 49 (fun _ => 0) (0, fun _ => 0, fun _ => 0) = some B ∧ B.1 ≤ 48 ∧ I2 m 31 = nI B.1 ∧ ∀ i, i < B.1 → I2 (m + 24) i = B.2.1 i ∧ I2 (m + 25) i = B.2.2 i) ∧ I2 m 30 = 1 ∧ (∀ k, k < no → MK I2 J2 m k (cnt k) L ∧ I2 (m + 17) k = 1) ∧ layS m I J I2 J2
theorem grow_le {d : GD} : ∀ (q : Nat) (rc : Nat → Nat) (b B : BS), b.1 ≤ 48 → grow d q rc b = some B → B.1 ≤ 48
  | 0, _, _, _, _, e => by cases e
  | q + 1, rc, b, B, hb, e => by
    simp only [grow] at e
    split at e
    · cases e; exact hb
    · split at e
      · cases e
      · split at e
        · rename_i h48
          exact grow_le q _ _ B (show b.1 + 1 ≤ 48 by omega) e
        · cases e
set_option maxHeartbeats 8000000 in
theorem c_Mo_lay_build (l : Launch) (D : va_G) (g : GM) (I : MI) (J : MJ) {m no np : Nat} {L cnt ow pl : Nat → Nat} {X : Nat → XS} (hM : MoAt g m) (hL : LsOK I m L) (hno : I m 1 = nI no) (hno6 : no ≤ 6) (hK : ∀ k, k < no → MK I J m k (cnt k) L) (hnp : I m 5 = nI np) (hnp2 : np ≤ 48) (hop : opM I m no np L cnt ow pl) (hlin : rlin (rjM I m L cnt) no 0 1 = 1) (h30 : I m 30 = 0) (hX : ∀ k, k < no → brun (kS I m L cnt k) (cnt k) = some (X k)) (hgr : ∀ h0, ∃ B, grow (mkG I m L cnt no np ow pl X h0) 49 (fun _ => 0) (0, fun _ => 0, fun _ => 0) = some B) : Ct l yMo_lay bMo_lay 2 (some .boolean) (rmN 7 181) D [.ref m] g I J (layQ g I J m no np L cnt ow pl X) := by
  refine Ct.of (by decide) (ble rfl) [some (.ref m), none] rfl ?_
  intro x C M
  obtain ⟨m0, m1, m2, m3, m4, m5, m6, m7, m8, m9, m10, m11, m12, m13, m14, m15, m16, m17, m18, m19, m20, m21, m22, m23, m24, m25, m26, f2, f3, f4, f6, f7, f8, f9, f10, f11, f12, f13, f14, f16, f17, f18, f19, f20, f21, f22, f23, f24, f25, f26, f32, f33, f34⟩ := id hM
  refine v_aload_n C 0 dMo_lay_0 rfl rfl ?_
  refine v_callV C (c_Mo_linearity (kl x) (kD x) g I J (no := no) (L := L) (cnt := cnt) hM hL hno hno6 hK) mwMo_linearity cfMo (by assumption) w919 ws41 w917 rfl rfl (ble rfl) (ble rfl) (ble rfl) (ble rfl) (ble rfl) dMo_lay_1 ?_
  rintro v g2 I1 J1 ⟨rfl, rfl, hs, hK1⟩
  rw [hlin]
  refine v_iconst C 1 dMo_lay_4 (by decide) ?_
  refine v_icmp_eq C 10 dMo_lay_5 (by decide) (fun _ => ?_) (fun h => absurd rfl h)
  have o1 : ∀ c, 0 < c → c < 27 → c ≠ 13 → c ≠ 17 → c ≠ 18 → c ≠ 19 → c ≠ 21 → I1 (m + c) = I (m + c) := fun c c0 c1 c2 c3 c4 c5 c6 => hs.1 _ (by omega) (by omega) (by omega) (by omega) (by omega) (by omega)
  have e15 : I1 m 15 = I m 15 := hs.2.1 15 (by decide) (by decide)
  refine v_aload_n C 0 dMo_lay_10 rfl rfl ?_
  refine v_getiN C cfMo (k := 30) (by assumption) rfl w704 dMo_lay_11 (((hs.2.1 30 (by decide) (by decide)).trans h30)) ?_
  refine v_if_ne C 85 dMo_lay_14 (by decide) (fun h => absurd rfl h) (fun _ => ?_)
  refine v_aload_n C 0 dMo_lay_17 rfl rfl ?_
  refine v_iconst C 0 dMo_lay_18 (by decide) ?_
  refine v_puti C cfMo (k := 31) (by assumption) rfl w705 rfl rfl rfl dMo_lay_19 ?_
  refine v_iconst C 0 dMo_lay_22 (by decide) ?_
  refine v_istore_n C 1 dMo_lay_23 rfl (ble rfl) rfl ?_
  have fnd : ∀ k, k < no → I1 (m + 18) k = nI (X k).1 ∧ XR I1 J1 m (2001 * k) (X k) := by
    intro k hk
    obtain ⟨k1, k2⟩ := hK1 k hk
    have hf := rfnd_congr (R2 := rE I m L k) (fun f f1 f2 => ((hs.R L) f f1 f2).symm) (k1.2.2.2 k2)
    rw [e15, o1 1 (by decide) (by decide) (by decide) (by decide) (by decide) (by decide) (by decide)] at hf
    rcases hf with ⟨q1, -⟩ | ⟨Y, q1, q2, -, -, -, q6⟩
    · rw [hX k hk] at q1; cases q1
    · rw [hX k hk] at q1
      cases q1
      exact ⟨q2, q6⟩
  have eRk : ∀ (Ic : MI) (Jc : MJ) (k : Nat), qsm m I1 J1 Ic Jc → eqR (rE I m L k) (rE Ic m L k) := fun Ic Jc k q => eqR_mem (fun f h4 h11 => (q.1 (m + f) (by omega) (by omega) (by omega) (by omega) (by omega)).trans (o1 f (by omega) (by omega) (by omega) (by omega) (by omega) (by omega) (by omega)))
  have fin : ∀ (Ic : MI) (Jc : MJ) (z1 : Option Value) (h0 : Nat → Nat → Int32) (B : BS), qsm m I1 J1 Ic Jc → grow (mkG I m L cnt no np ow pl X h0) 49 (fun _ => 0) (0, fun _ => 0, fun _ => 0) = some B → Ic m 31 = nI B.1 → (∀ i, i < B.1 → Ic (m + 24) i = B.2.1 i ∧ Ic (m + 25) i = B.2.2 i) → V x g2 0 0 Ic Jc 80 [some (.ref m), z1] [] := by
    intro Ic Jc z1 h0 B q e1 e2 e3
    refine v_aload_n C 0 dMo_lay_80 rfl rfl ?_
    refine v_iconst C 1 dMo_lay_81 (by decide) ?_
    refine v_puti C cfMo (k := 30) (by assumption) rfl w704 rfl (by first | rfl | assumption) (by first | rfl | assumption) dMo_lay_82 ?_
    refine v_iconst C 1 dMo_lay_85 (by decide) ?_
    have q9 : qsm m I1 J1 (s2 Ic m 30 1) Jc := q.tr ⟨fun b b1 _ _ _ _ => s2_off b1, fun i _ _ i3 _ => s2_k i3, fun _ _ => rfl⟩
    refine v_zret C M (Or.inr rfl) dMo_lay_86 (ble rfl) (ble rfl) ⟨rfl, rfl, ⟨h0, B, e1, grow_le _ _ _ _ (Nat.zero_le _) e1, ?_, fun i hi => ?_⟩, s2_self _ _ _ _, fun k hk => ⟨MK_q q9 (hK1 k hk).1, ?_⟩, ⟨fun b b1 b2 b3 b4 b5 b6 b7 b8 b9 b10 => ?_, fun i i1 i2 i3 i4 => ?_, fun b b1 b2 b3 b4 => ?_⟩⟩
    · rw [s2_k (by decide)]; exact e2
    · rw [s2_a (by omega), s2_a (by omega)]; exact e3 i hi
    · rw [q9.1 (m + 17) (by omega) (by omega) (by omega) (by omega) (by omega)]; exact (hK1 k hk).2
    · rw [q9.1 b b1 b3 b8 b9 b10]; exact hs.1 b b1 b2 b4 b5 b6 b7
    · rw [q9.2.1 i i1 i2 i3 i4]; exact hs.2.1 i i1 i2
    · rw [q9.2.2 b b1]; exact hs.2.2 b b1 b2 b3 b4
  -- the row
  have rows : ∀ (h0 : Nat → Nat → Int32) (q : Nat) (rc : Nat → Nat) (b : BS) (Ic : MI) (Jc : MJ) (B : BS) (z1 : Option Value), qsm m I1 J1 Ic Jc → GW m L cnt (mkG I m L cnt no np ow pl X h0) Ic Jc → rcO m (mkG I m L cnt no np ow pl X h0) rc Ic → Ic m 31 = nI b.1 → (∀ i, i < b.1 → Ic (m + 24) i = b.2.1 i ∧ Ic (m + 25) i = b.2.2 i) → grow (mkG I m L cnt no np ow pl X h0) q rc b = some B → grow (mkG I m L cnt no np ow pl X h0) 49 (fun _ => 0) (0, fun _ => 0, fun _ => 0) = some B → V x g2 0 0 Ic Jc 54 [some (.ref m), z1] [] := by
    intro h0 q
    generalize ed : mkG I m L cnt no np ow pl X h0 = d
    have d1 : gno d = no := by rw [← ed]; rfl
    have d2 : gnp d = np := by rw [← ed]; rfl
    induction q with
    | zero =>
      intro rc b Ic Jc B z1 _ _ _ _ _ e _
      cases e
    | succ q ih =>
      intro rc b Ic Jc B z1 hq hG hr h31 hb e eB2
      simp only [grow] at e
      refine v_aload_n C 0 dMo_lay_54 rfl rfl ?_
      refine v_cVi C (c_Mo_isWhole (kl x) (kD x) g2 Ic Jc hM hG hr) mwMo_isWhole cfMo (by assumption) w935 ws44 w933 rfl rfl (ble rfl) (ble rfl) (ble rfl) (ble rfl) (ble rfl) dMo_lay_55 ?_
      by_cases hz : allA (gend d rc) (gno d) 0 = 0
      · rw [if_neg (fun h => h hz)] at e
        rw [hz]
        refine v_if_ne C 80 dMo_lay_58 (by decide) (fun h => absurd rfl h) (fun _ => ?_)
        cases hfst : fstC (gcnd d rc) (gnp d) 0 with
        | none => rw [hfst] at e; cases e
        | some r =>
          obtain ⟨ni, t, res⟩ := r
          rw [hfst] at e
          have e : (if b.1 < 48 then grow d q (upF rc (gow d ni) t) (b.1 + 1, upF b.2.1 b.1 (nI ni), upF b.2.2 b.1 res) else none) = some B := e
          split at e
          · rename_i h48
            refine v_iconst C 0 dMo_lay_61 (by decide) ?_
            refine v_istore_n C 1 dMo_lay_62 rfl (ble rfl) rfl ?_
            have inner : ∀ (w n : Nat) (I4 : MI) (J4 : MJ), n + w = gnp d → fstC (gcnd d rc) w n = some (ni, t, res) → gsame m Ic Jc I4 J4 → I4 m 31 = Ic m 31 → I4 (m + 24) = Ic (m + 24) → I4 (m + 25) = Ic (m + 25) → I4 (m + 26) = Ic (m + 26) → V x g2 0 0 I4 J4 63 [some (.ref m), some (.int (nI n))] [] := by
              intro w
              induction w with
              | zero =>
                intro n I4 J4 _ hf
                cases hf
              | succ w ihw =>
                intro n I4 J4 hn hf g1 g31 g24 g25 g26
                have hn2 : n < gnp d := by omega
                have hG4 := hG.same g1
                have hr4 : rcO m d rc I4 := fun k hk => by rw [g26]; exact hr k hk
                refine v_aload_n C 0 dMo_lay_63 rfl rfl ?_
                refine v_iload_n C 1 dMo_lay_64 rfl rfl ?_
                refine v_callV C (c_Mo_goesOn (kl x) (kD x) g2 I4 J4 hM hG4 hr4 hn2 (by rw [g31]; exact h31) h48) mwMo_goesOn cfMo (by assumption) w939 ws45 w937 rfl rfl (ble rfl) (ble rfl) (ble rfl) (ble rfl) (ble rfl) dMo_lay_65 ?_
                rintro v g3 I5 J5 ⟨rfl, s5, hc⟩
                simp only [fstC] at hf
                rcases hc with ⟨c1, rfl, c3, c4, c5, c6⟩ | ⟨t2, res2, c1, rfl, c3, c4, c5, c6, c7⟩
                · rw [c1] at hf
                  refine v_if_ne C 77 dMo_lay_68 (by decide) (fun h => absurd rfl h) (fun _ => ?_)
                  refine v_iinc C (nI (n + 1)) dMo_lay_71 rfl (nI_1 n) (ble rfl) rfl ?_
                  refine v_goto C 63 dMo_lay_74 (by decide) ?_
                  exact ihw (n + 1) I5 J5 (by omega) hf (g1.tr s5) (by rw [c3, g31]) (by rw [c4, g24]) (by rw [c5, g25]) (by rw [c6, g26])
                · rw [c1] at hf
                  have hf : some (n, t2, res2) = some (ni, t, res) := hf
                  cases hf
                  refine v_if_ne C 77 dMo_lay_68 (by decide) (fun _ => ?_) (fun h => absurd h (by decide))
                  refine v_goto C 54 dMo_lay_77 (by decide) ?_
                  refine ih _ _ I5 J5 B _ (hq.tr (g1.tr s5).q) (hG4.same s5) (fun k hk => ?_) c4 (fun i hi => ?_) e eB2
                  · rw [c7, g26]
                    unfold upF
                    by_cases hk2 : k = gow d ni
                    · rw [if_pos hk2, if_pos hk2]
                      exact ⟨by rw [hk2], by rw [hk2]; exact c3⟩
                    · rw [if_neg hk2, if_neg hk2]
                      exact hr k hk
                  · have hi : i < b.1 + 1 := hi
                    rw [c5, c6, g24, g25]
                    show upF _ _ _ i = upF _ _ _ i ∧ upF _ _ _ i = upF _ _ _ i
                    unfold upF
                    by_cases hq2 : i = b.1
                    · simp only [if_pos hq2]
                      exact ⟨trivial, trivial⟩
                    · simp only [if_neg hq2]
                      exact hb i (by omega)
            exact inner (gnp d) 0 Ic Jc (by omega) hfst gsame.rf rfl rfl rfl rfl
          · cases e
      · rw [if_pos hz] at e
        have e : b = B := Option.some.inj e
        subst e
        refine v_if_ne C 80 dMo_lay_58 (by decide) (fun _ => ?_) (fun h => absurd h hz)
        subst ed
        exact fin Ic Jc _ h0 b hq eB2 h31 hb
  -- enlivening
  have loop : ∀ (q k : Nat) (Ic : MI) (Jc : MJ), k + q = no → qsm m I1 J1 Ic Jc → Ic m 31 = 0 → (∀ j, j < k → Ic (m + 26) j = nI (2001 * j) ∧ ∃ h0, ∀ i, i < (X j).1 → Ic (m + 15) (2001 * j + i) = hmG (eB (rE I m L j) (cnt j) (I m 15) (X j)) (gtg (kS I m L cnt j) (X j)) (cnt j) (X j).1 h0 i) → V x g2 0 0 Ic Jc 24 [some (.ref m), some (.int (nI k))] [] := by
    intro q
    induction q with
    | zero =>
      intro k Ic Jc h1 hq h31 hh
      have hk : k = no := by omega
      subst hk
      refine v_iload_n C 1 dMo_lay_24 rfl rfl ?_
      refine v_aload_n C 0 dMo_lay_25 rfl rfl ?_
      refine v_getiN C cfMo (k := 1) (by assumption) rfl w675 dMo_lay_26 (((hq.2.1 1 (by decide) (by decide) (by decide) (by decide)).trans ((hs.2.1 1 (by decide) (by decide)).trans hno))) ?_
      refine v_icmp_ge C 54 dMo_lay_29 (by decide) (fun _ => ?_) (fun h => absurd (nI_le (Nat.le_refl _) (by omega)) h)
      have hch : ∃ h0 : Nat → Nat → Int32, ∀ j, j < k → ∀ i, i < (X j).1 → Ic (m + 15) (2001 * j + i) = hmG (eB (rE I m L j) (cnt j) (I m 15) (X j)) (gtg (kS I m L cnt j) (X j)) (cnt j) (X j).1 (h0 j) i := by
        refine ⟨fun j => if h : j < k then (hh j h).2.choose else fun _ => 0, fun j hj i hi => ?_⟩
        show _ = hmG _ _ _ _ (if h : j < k then (hh j h).2.choose else fun _ => 0) i
        rw [dif_pos hj]
        exact (hh j hj).2.choose_spec i hi
      obtain ⟨h0, hh0⟩ := hch
      obtain ⟨B, eB⟩ := hgr h0
      have oc : ∀ c, 0 < c → c < 24 → c ≠ 15 → c ≠ 13 → c ≠ 17 → c ≠ 18 → c ≠ 19 → c ≠ 21 → Ic (m + c) = I (m + c) := fun c c0 c1 c2 c3 c4 c5 c6 c7 => (hq.1 _ (by omega) (by omega) (by omega) (by omega) (by omega)).trans (o1 c c0 (by omega) c3 c4 c5 c6 c7)
      have ec15 : Ic m 15 = I m 15 := (hq.2.1 15 (by decide) (by decide) (by decide) (by decide)).trans e15
      refine rows h0 49 (fun _ => 0) (0, fun _ => 0, fun _ => 0) Ic Jc B _ hq ?_ (fun j hj => ⟨(hh j hj).1, (brun_fin (rstp_SOK _ _ _ _ _ _) (hK j hj).2.1 (hX j hj)).2.2.1⟩) h31 (fun i hi => absurd hi (Nat.not_lt_zero i)) eB eB
      refine ⟨(hq.2.1 1 (by decide) (by decide) (by decide) (by decide)).trans ((hs.2.1 1 (by decide) (by decide)).trans hno), hno6, (hq.2.1 5 (by decide) (by decide) (by decide) (by decide)).trans ((hs.2.1 5 (by decide) (by decide)).trans hnp), hnp2, fun z hz => by rw [oc 3 (by decide) (by decide) (by decide) (by decide) (by decide) (by decide) (by decide) (by decide)]; exact hL z hz, fun z hz => by rw [oc 5 (by decide) (by decide) (by decide) (by decide) (by decide) (by decide) (by decide) (by decide)]; exact hop z hz, fun z y hz hy => ?_, fun j hj => ?_⟩
      · rw [ec15]
        unfold bfr
        rw [oc 11 (by decide) (by decide) (by decide) (by decide) (by decide) (by decide) (by decide) (by decide), oc 10 (by decide) (by decide) (by decide) (by decide) (by decide) (by decide) (by decide) (by decide), oc 4 (by decide) (by decide) (by decide) (by decide) (by decide) (by decide) (by decide) (by decide)]
        rfl
      · have hf := fnd j hj
        have eR := eRk Ic Jc j hq
        refine ⟨by rw [oc 2 (by decide) (by decide) (by decide) (by decide) (by decide) (by decide) (by decide) (by decide)]; exact (hK j hj).1, (hK j hj).2.1, ?_, hX j hj, ?_, fun i hi => ?_, ?_, fun i hi => ⟨hh0 j hj i hi, hmG01 _ _ (Nat.le_refl _) (fun i h1 h2 => by have h2 : i < (X j).1 := h2; omega) i hi⟩, fun p => ?_⟩
        · rw [oc 1 (by decide) (by decide) (by decide) (by decide) (by decide) (by decide) (by decide) (by decide), ec15, rstp_congr eR]
          rfl
        · rw [oc 1 (by decide) (by decide) (by decide) (by decide) (by decide) (by decide) (by decide) (by decide)]
          exact brun_MapOK (hK j hj).2.1 (hX j hj)
        · rw [hq.1 (m + 13) (by omega) (by omega) (by omega) (by omega) (by omega), hq.2.2 (m + 14) (by omega)]
          exact hf.2 i hi
        · rw [hq.1 (m + 18) (by omega) (by omega) (by omega) (by omega) (by omega)]
          exact hf.1
        · rw [ec15, eB_congr eR]
          rfl
    | succ q ih =>
      intro k Ic Jc h1 hq h31 hh
      have hk : k < no := by omega
      have hk6 : k < 6 := by omega
      have oc : ∀ c, 0 < c → c < 24 → c ≠ 15 → c ≠ 13 → c ≠ 17 → c ≠ 18 → c ≠ 19 → c ≠ 21 → Ic (m + c) = I (m + c) := fun c c0 c1 c2 c3 c4 c5 c6 c7 => (hq.1 _ (by omega) (by omega) (by omega) (by omega) (by omega)).trans (o1 c c0 (by omega) c3 c4 c5 c6 c7)
      have ec15 : Ic m 15 = I m 15 := (hq.2.1 15 (by decide) (by decide) (by decide) (by decide)).trans e15
      have eR := eRk Ic Jc k hq
      have ek1 : Ic (m + 1) k = I (m + 1) k := by rw [oc 1 (by decide) (by decide) (by decide) (by decide) (by decide) (by decide) (by decide) (by decide)]
      have hf := fnd k hk
      have eS : rstp (rE Ic m L k) (fun j => L (16 * k + j)) (Ic (m + 1) k) (cnt k) (Ic m 15) 0 = kS I m L cnt k := by
        rw [ek1, ec15, rstp_congr eR]
      refine v_iload_n C 1 dMo_lay_24 rfl rfl ?_
      refine v_aload_n C 0 dMo_lay_25 rfl rfl ?_
      refine v_getiN C cfMo (k := 1) (by assumption) rfl w675 dMo_lay_26 (((hq.2.1 1 (by decide) (by decide) (by decide) (by decide)).trans ((hs.2.1 1 (by decide) (by decide)).trans hno))) ?_
      refine v_icmp_ge C 54 dMo_lay_29 (by decide) (fun h => absurd h (nI_ge hk (by omega))) (fun _ => ?_)
      refine v_aload_n C 0 dMo_lay_32 rfl rfl ?_
      refine v_iload_n C 1 dMo_lay_33 rfl rfl ?_
      refine v_callV C (c_Mo_enliven (kl x) (kD x) g2 Ic Jc (cnt := cnt k) (L := L) (X := X k) hM (fun z hz => by rw [oc 3 (by decide) (by decide) (by decide) (by decide) (by decide) (by decide) (by decide) (by decide)]; exact hL z hz) hk6 (by rw [oc 2 (by decide) (by decide) (by decide) (by decide) (by decide) (by decide) (by decide) (by decide)]; exact (hK k hk).1) (hK k hk).2.1 (by rw [eS]; exact hX k hk) (by rw [ek1]; exact brun_MapOK (hK k hk).2.1 (hX k hk)) (fun i hi => by rw [hq.1 (m + 13) (by omega) (by omega) (by omega) (by omega) (by omega), hq.2.2 (m + 14) (by omega)]; exact hf.2 i hi) (by rw [hq.1 (m + 18) (by omega) (by omega) (by omega) (by omega) (by omega)]; exact hf.1)) mwMo_enliven cfMo (by assumption) w931 ws43 w929 rfl rfl (ble rfl) (ble rfl) (ble rfl) (ble rfl) (ble rfl) dMo_lay_34 ?_
      rintro v g3 I4 J4 ⟨rfl, rfl, oE, h0, hh0⟩
      rw [eS, ec15, eB_congr eR] at hh0
      have q4 : qsm m I1 J1 I4 J4 := hq.tr ⟨fun b b1 b2 _ _ _ => oE.1 b b1 b2, fun i i1 i2 _ _ => oE.2.1 i i1 i2, oE.2.2.2⟩
      refine v_aload_n C 0 dMo_lay_37 rfl rfl ?_
      refine v_getr C cfMo (k := 34) (by assumption) rfl (by assumption) w708 dMo_lay_38 ?_
      refine v_iload_n C 1 dMo_lay_41 rfl rfl ?_
      refine v_sipush C 2001 dMo_lay_42 (by decide) ?_
      refine v_iload_n C 1 dMo_lay_45 rfl rfl ?_
      refine v_imulN C dMo_lay_46 ((pk_mul 2001 k)) ?_
      refine v_iastN C (q := (k)) (by assumption) (by first | rfl | (simp only [n16I, n2001I, nI_add, pk_mul, nI_1])) (by omega) (by decide) dMo_lay_47 ?_
      refine v_iinc C (nI (k + 1)) dMo_lay_48 rfl (nI_1 k) (ble rfl) rfl ?_
      refine v_goto C 24 dMo_lay_51 (by decide) ?_
      refine ih (k + 1) _ J4 (by omega) (q4.tr ⟨fun b b1 _ _ _ b5 => s2_off b5, fun i _ _ _ _ => s2_a (by omega), fun _ _ => rfl⟩) (by rw [s2_a (by omega), oE.2.1 31 (by decide) (by decide)]; exact h31) (fun j hj => ?_)
      by_cases hjk : j = k
      · subst hjk
        exact ⟨s2_self _ _ _ _, h0, fun i hi => by rw [s2_a (by omega)]; exact hh0 i hi⟩
      · obtain ⟨p1, z, p2⟩ := hh j (by omega)
        refine ⟨by rw [s2_k hjk, oE.1 (m + 26) (by omega) (by omega)]; exact p1, z, fun i hi => ?_⟩
        have hXj : (X j).1 ≤ 2000 := brun_le (rstp_SOK _ _ _ _ _ _) (hK j (by omega)).2.1 (hX j (by omega))
        rw [s2_a (by omega), oE.2.2.1 _ (by omega)]
        exact p2 i hi
  refine loop no 0 _ _ (by omega) ⟨fun b b1 _ _ _ _ => s2_off b1, fun i _ _ _ i4 => s2_k i4, fun _ _ => rfl⟩ (s2_self _ _ _ _) (fun j hj => absurd hj (Nat.not_lt_zero j))
theorem c_Mo_lay_known (l : Launch) (D : va_G) (g : GM) (I : MI) (J : MJ) {m no : Nat} {L cnt : Nat → Nat} (hM : MoAt g m) (hL : LsOK I m L) (hno : I m 1 = nI no) (hno6 : no ≤ 6) (hK : ∀ k, k < no → MK I J m k (cnt k) L) (hlin : rlin (rjM I m L cnt) no 0 1 = 1) (h30 : I m 30 = 1) : Ct l yMo_lay bMo_lay 2 (some .boolean) (rmN 7 181) D [.ref m] g I J (fun v g2 I2 J2 => v = some (.int 1) ∧ g2 = g ∧ lkS m I J I2 J2 ∧ ∀ k, k < no → MK I2 J2 m k (cnt k) L ∧ I2 (m + 17) k = 1) := by
  refine Ct.of (by decide) (ble rfl) [some (.ref m), none] rfl ?_
  intro x C M
  obtain ⟨m0, m1, m2, m3, m4, m5, m6, m7, m8, m9, m10, m11, m12, m13, m14, m15, m16, m17, m18, m19, m20, m21, m22, m23, m24, m25, m26, f2, f3, f4, f6, f7, f8, f9, f10, f11, f12, f13, f14, f16, f17, f18, f19, f20, f21, f22, f23, f24, f25, f26, f32, f33, f34⟩ := id hM
  refine v_aload_n C 0 dMo_lay_0 rfl rfl ?_
  refine v_callV C (c_Mo_linearity (kl x) (kD x) g I J (no := no) (L := L) (cnt := cnt) hM hL hno hno6 hK) mwMo_linearity cfMo (by assumption) w919 ws41 w917 rfl rfl (ble rfl) (ble rfl) (ble rfl) (ble rfl) (ble rfl) dMo_lay_1 ?_
  rintro v g2 I1 J1 ⟨rfl, rfl, hs, hK1⟩
  rw [hlin]
  refine v_iconst C 1 dMo_lay_4 (by decide) ?_
  refine v_icmp_eq C 10 dMo_lay_5 (by decide) (fun _ => ?_) (fun h => absurd rfl h)
  refine v_aload_n C 0 dMo_lay_10 rfl rfl ?_
  refine v_getiN C cfMo (k := 30) (by assumption) rfl w704 dMo_lay_11 (((hs.2.1 30 (by decide) (by decide)).trans h30)) ?_
  refine v_if_ne C 85 dMo_lay_14 (by decide) (fun _ => ?_) (fun h => absurd h (by decide))
  refine v_iconst C 1 dMo_lay_85 (by decide) ?_
  exact v_zret C M (by first | exact Or.inl rfl | exact Or.inr rfl | assumption) dMo_lay_86 (ble rfl) (ble rfl) ⟨rfl, rfl, hs, hK1⟩
theorem c_Mo_lay_not (l : Launch) (D : va_G) (g : GM) (I : MI) (J : MJ) {m no : Nat} {L cnt : Nat → Nat} (hM : MoAt g m) (hL : LsOK I m L) (hno : I m 1 = nI no) (hno6 : no ≤ 6) (hK : ∀ k, k < no → MK I J m k (cnt k) L) (hlin : rlin (rjM I m L cnt) no 0 1 ≠ 1) : Ct l yMo_lay bMo_lay 2 (some .boolean) (rmN 7 181) D [.ref m] g I J (fun v g2 I2 J2 => v = some (.int 0) ∧ g2 = g ∧ lkS m I J I2 J2 ∧ ∀ k, k < no → MK I2 J2 m k (cnt k) L ∧ I2 (m + 17) k = 1) := by
  refine Ct.of (by decide) (ble rfl) [some (.ref m), none] rfl ?_
  intro x C M
  obtain ⟨m0, m1, m2, m3, m4, m5, m6, m7, m8, m9, m10, m11, m12, m13, m14, m15, m16, m17, m18, m19, m20, m21, m22, m23, m24, m25, m26, f2, f3, f4, f6, f7, f8, f9, f10, f11, f12, f13, f14, f16, f17, f18, f19, f20, f21, f22, f23, f24, f25, f26, f32, f33, f34⟩ := id hM
  refine v_aload_n C 0 dMo_lay_0 rfl rfl ?_
  refine v_callV C (c_Mo_linearity (kl x) (kD x) g I J (no := no) (L := L) (cnt := cnt) hM hL hno hno6 hK) mwMo_linearity cfMo (by assumption) w919 ws41 w917 rfl rfl (ble rfl) (ble rfl) (ble rfl) (ble rfl) (ble rfl) dMo_lay_1 ?_
  rintro v g2 I1 J1 ⟨rfl, rfl, hs, hK1⟩
  refine v_iconst C 1 dMo_lay_4 (by decide) ?_
  refine v_icmp_eq C 10 dMo_lay_5 (by decide) (fun h => absurd h hlin) (fun _ => ?_)
  refine v_iconst C 0 dMo_lay_8 (by decide) ?_
  exact v_zret C M (by first | exact Or.inl rfl | exact Or.inr rfl | assumption) dMo_lay_9 (ble rfl) (ble rfl) ⟨rfl, rfl, hs, hK1⟩
