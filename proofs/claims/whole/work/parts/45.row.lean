/-! THE ROW, of the data: how many objects, operations; owner, place, earlier; an object's operations, kind, returned, possibilities, hopes -/
abbrev RD : Type := Nat × Nat × (Nat → Nat) × (Nat → Nat) × (Nat → Int64) × (Nat → Nat → Nat → Int32) × (Nat → Int32) × (Nat → Int32) × (Nat → XS) × (Nat → Nat → Int32)
abbrev dno (d : RD) : Nat := d.1
abbrev dnp (d : RD) : Nat := d.2.1
abbrev dow (d : RD) : Nat → Nat := d.2.2.1
abbrev dpl (d : RD) : Nat → Nat := d.2.2.2.1
abbrev der (d : RD) : Nat → Int64 := d.2.2.2.2.1
abbrev dE (d : RD) : Nat → Nat → Nat → Int32 := d.2.2.2.2.2.1
abbrev dkd (d : RD) : Nat → Int32 := d.2.2.2.2.2.2.1
abbrev drt (d : RD) : Nat → Int32 := d.2.2.2.2.2.2.2.1
abbrev dX (d : RD) : Nat → XS := d.2.2.2.2.2.2.2.2.1
abbrev dhp (d : RD) : Nat → Nat → Int32 := d.2.2.2.2.2.2.2.2.2
def cnd (d : RD) (placed : Int64) (rc : Nat → Nat) (i : Nat) : Option (Nat × Int32) :=
  if jushr placed (nI i) &&& 1 = 0 ∧ der d i &&& (placed ^^^ (-1)) = 0 then
    (match stp (dE d (dow d i)) (dkd d (dow d i)) (drt d (dow d i)) 0 ((dX d (dow d i)).2.1 (rc (dow d i))) ((dX d (dow d i)).2.2.1 (rc (dow d i))) (dpl d i) with
    | none => none
    | some c => if lk (dX d (dow d i)).2.1 (dX d (dow d i)).2.2.1 (keyB ((dX d (dow d i)).2.1 (rc (dow d i))) (dpl d i) c.2.1) c.1 (dX d (dow d i)).1 = -1 then none
      else if dhp d (dow d i) (ix (lk (dX d (dow d i)).2.1 (dX d (dow d i)).2.2.1 (keyB ((dX d (dow d i)).2.1 (rc (dow d i))) (dpl d i) c.2.1) c.1 (dX d (dow d i)).1)) = 0 then none
      else some (ix (lk (dX d (dow d i)).2.1 (dX d (dow d i)).2.2.1 (keyB ((dX d (dow d i)).2.1 (rc (dow d i))) (dpl d i) c.2.1) c.1 (dX d (dow d i)).1), c.2.2))
  else none
def fstC (c : Nat → Option (Nat × Int32)) : Nat → Nat → Option (Nat × Nat × Int32)
  | 0, _ => none
  | m + 1, i => match c i with
    | none => fstC c m (i + 1)
    | some q => some (i, q.1, q.2)
def allA (e : Nat → Int32) : Nat → Nat → Int32
  | 0, _ => 1
  | m + 1, k => if e k = 0 then 0 else allA e m (k + 1)
def endE (d : RD) (rc : Nat → Nat) (k : Nat) : Int32 := if isE (drt d k) ((dX d k).2.1 (rc k)) then 1 else 0
abbrev BS : Type := Nat × (Nat → Int32) × (Nat → Int32)
def brw (d : RD) : Nat → Int64 → (Nat → Nat) → BS → BS
  | 0, _, _, b => b
  | m + 1, placed, rc, b => if allA (endE d rc) (dno d) 0 ≠ 0 then b else (match fstC (cnd d placed rc) (dnp d) 0 with
    | none => b
    | some (i, t, res) => brw d m (placed ||| jshl 1 (nI i)) (upF rc (dow d i) t) (b.1 + 1, upF b.2.1 b.1 (nI i), upF b.2.2 b.1 res))
/-- the memory that the row is made of: nothing of it changes but the states' cells and the row's own -/
def RW (g : GM) (a : Nat) (sb cnt : Nat → Nat) (d : RD) (I : MI) (J : MJ) : Prop := SubW g a (dno d) sb ∧ I a 11 = nI (dno d) ∧ I a 12 = nI (dnp d) ∧ dnp d ≤ 48 ∧
  (∀ i, i < dnp d → I (a + 2) i = nI (dow d i) ∧ dow d i < dno d ∧ I (a + 3) i = nI (dpl d i) ∧ dpl d i < 16 ∧ J (a + 4) i = der d i) ∧
  ∀ k, k < dno d → (∀ i q, i < 16 → I (sb k + 14 + i) q = dE d k i q) ∧ I (sb k) 5 = dkd d k ∧ I (sb k) 8 = drt d k ∧ XIs I J (sb k + 2) (dX d k) ∧ KInv (dX d k) ∧ I (sb k + 2) 6 = drt d k ∧ I (sb k + 2) 7 = 0 ∧ ∀ i, I (sb k + 2 + 8) i = dhp d k i
/-- what placing leaves -/
def rsame (a no : Nat) (sb : Nat → Nat) (I : MI) (J : MJ) (I2 : MI) (J2 : MJ) : Prop := (∀ b, b ≠ a → b ≠ a + 15 → b ≠ a + 16 → b ≠ a + 17 → (∀ k, k < no → b ≠ sb k + 2 + 6) → I2 b = I b) ∧ (∀ q, q ≠ 9 → q ≠ 10 → I2 a q = I a q) ∧ ∀ b, (∀ k, k < no → b ≠ sb k + 2 + 6) → J2 b = J b
theorem rsame.rf {a no : Nat} {sb : Nat → Nat} {I : MI} {J : MJ} : rsame a no sb I J I J := ⟨fun _ _ _ _ _ _ => rfl, fun _ _ _ => rfl, fun _ _ => rfl⟩
theorem rsame.tr {a no : Nat} {sb : Nat → Nat} {I I2 I3 : MI} {J J2 J3 : MJ} (h : rsame a no sb I J I2 J2) (h2 : rsame a no sb I2 J2 I3 J3) : rsame a no sb I J I3 J3 := ⟨fun b b1 b2 b3 b4 b5 => by rw [h2.1 b b1 b2 b3 b4 b5]; exact h.1 b b1 b2 b3 b4 b5, fun q q1 q2 => by rw [h2.2.1 q q1 q2]; exact h.2.1 q q1 q2, fun b b1 => by rw [h2.2.2 b b1]; exact h.2.2 b b1⟩
theorem subw_ne {g : GM} {a no : Nat} {sb : Nat → Nat} (hW : SubW g a no sb) {k j : Nat} (hk : k < no) (hj : j < no) {c : Nat} (hc : c < 30) (hne : c ≠ 8 ∨ k ≠ j) : sb k + c ≠ sb j + 2 + 6 := by
  by_cases h : k = j
  · subst h
    rcases hne with h1 | h1
    · omega
    · exact absurd rfl h1
  · rcases Nat.lt_or_ge k j with h2 | h2
    · have := hW.2.2 k j h2 hj; omega
    · have := hW.2.2 j k (by omega) hk; omega
theorem RW.same {g : GM} {a : Nat} {sb cnt : Nat → Nat} {d : RD} {I I2 : MI} {J J2 : MJ} (h : RW g a sb cnt d I J) (hs : rsame a (dno d) sb I J I2 J2) : RW g a sb cnt d I2 J2 := by
  obtain ⟨hW, h1, h2, h3, h4, h5⟩ := h
  have hau : ∀ k, k < dno d → a + 18 ≤ sb k := fun k hk => (hW.2.1 k hk).2.2
  have eI : ∀ b, b ≠ a → b < a + 15 → I2 b = I b := fun b b1 b2 => hs.1 b b1 (by omega) (by omega) (by omega) (fun k hk => by have := hau k hk; omega)
  refine ⟨hW, by rw [hs.2.1 11 (by decide) (by decide)]; exact h1, by rw [hs.2.1 12 (by decide) (by decide)]; exact h2, h3, fun i hi => ?_, fun k hk => ?_⟩
  · rw [eI (a + 2) (by omega) (by omega), eI (a + 3) (by omega) (by omega), hs.2.2 (a + 4) (fun k hk => by have := hau k hk; omega)]
    exact h4 i hi
  · obtain ⟨e1, e2, e3, e4, e5, e6, e7, e8⟩ := h5 k hk
    have hk2 := hau k hk
    have eS : ∀ c, c < 30 → c ≠ 8 → I2 (sb k + c) = I (sb k + c) := fun c hc hc8 => hs.1 _ (by omega) (by omega) (by omega) (by omega) (fun j hj => subw_ne hW hk hj hc (Or.inl hc8))
    have eT : ∀ c, c < 30 → c ≠ 8 → J2 (sb k + c) = J (sb k + c) := fun c hc hc8 => hs.2.2 _ (fun j hj => subw_ne hW hk hj hc (Or.inl hc8))
    have e0 : I2 (sb k) = I (sb k) := eS 0 (by omega) (by decide)
    have e22 : I2 (sb k + 2) = I (sb k + 2) := eS 2 (by omega) (by decide)
    refine ⟨fun i q hi => ?_, by rw [e0]; exact e2, by rw [e0]; exact e3, ⟨e4.1.off (fun b b1 b2 => ?_) ?_, ?_⟩, e5, by rw [e22]; exact e6, by rw [e22]; exact e7, ?_⟩
    · have h9 := eS (14 + i) (by omega) (by omega)
      rw [← Nat.add_assoc] at h9
      rw [h9]
      exact e1 i q hi
    · obtain ⟨c, rfl⟩ : ∃ c, b = sb k + c := ⟨b - sb k, by omega⟩
      exact eS c (by omega) (by omega)
    · exact eT 5 (by omega) (by decide)
    · have h9 : I2 (sb k + 2 + 1 + 1) = I (sb k + 2 + 1 + 1) := eS 4 (by omega) (by decide)
      have h10 : J2 (sb k + 2 + 1 + 2) = J (sb k + 2 + 1 + 2) := eT 5 (by omega) (by decide)
      have h11 : J2 (sb k + 2 + 7) = J (sb k + 2 + 7) := eT 9 (by omega) (by decide)
      rw [h9, h10, h11]
      exact e4.2
    · have h9 : I2 (sb k + 2 + 8) = I (sb k + 2 + 8) := eS 10 (by omega) (by decide)
      rw [h9]
      exact e8
def rcOK (a : Nat) (d : RD) (rc : Nat → Nat) (I : MI) : Prop := ∀ k, k < dno d → I (a + 17) k = nI (rc k) ∧ rc k < (dX d k).1
set_option maxHeartbeats 4000000 in
theorem c_LH_allAtEnds (l : Launch) (D : va_G) (g : GM) (I : MI) (J : MJ) {a : Nat} {sb cnt : Nat → Nat} {d : RD} {rc : Nat → Nat} (hA : LHAt g a) (hR : RW g a sb cnt d I J) (hrc : rcOK a d rc I) : Ct l yLH_allAtEnds bLH_allAtEnds 2 (some .boolean) (rmN 1 21) D [.ref a] g I J (PF (some (.int (allA (endE d rc) (dno d) 0))) g I J) := by
  refine Ct.of (by decide) (ble rfl) [some (.ref a), none] rfl ?_
  intro x C M
  obtain ⟨a0, a1, a2, a3, a4, a5, hS, a15, a16, a17, r0, r1, r2, r3, r4, r5, r6, r7, r8⟩ := id hA
  obtain ⟨hW, h11, h12, h48, hop, hsu⟩ := hR
  have h6 := hW.1
  refine v_iconst C 0 dLH_allAtEnds_0 (by decide) ?_
  refine v_istore_n C 1 dLH_allAtEnds_1 rfl (ble rfl) rfl ?_
  have loop : ∀ (m k : Nat), k + m = dno d → allA (endE d rc) m k = allA (endE d rc) (dno d) 0 → V x g 0 0 I J 2 [some (.ref a), some (.int (nI k))] [] := by
    intro m
    induction m with
    | zero =>
      intro k h1 he
      refine v_iload_n C 1 dLH_allAtEnds_2 rfl rfl ?_
      refine v_aload_n C 0 dLH_allAtEnds_3 rfl rfl ?_
      refine v_geti C cfLH (k := 11) (by assumption) rfl w122 dLH_allAtEnds_4 ?_
      rw [h11]
      refine v_icmp_ge C 38 dLH_allAtEnds_7 (by decide) (fun _ => ?_) (fun h => absurd (nI_le (by omega) (by omega)) h)
      refine v_iconst C 1 dLH_allAtEnds_38 (by decide) ?_
      exact v_zret C M (by first | exact Or.inl rfl | exact Or.inr rfl | assumption) dLH_allAtEnds_39 (ble rfl) (ble rfl) (pf_i (by rw [← he]; rfl) rfl rfl)
    | succ m ih =>
      intro k h1 he
      have hk : k < dno d := by omega
      obtain ⟨q1, hU, hau⟩ := hW.2.1 k hk
      obtain ⟨u0, hO, hSp, u11, u12, u13, ur0, ur1, ur2, ur3, ur4⟩ := id hU
      have s0 := hSp.1
      have hkc : (nI k).toNatClampNeg = k := nI_clamp (by omega)
      have hki : vp_in (nI k) 6 := vp_in_nI (by omega) (by decide)
      have hb := (hsu k hk).2.2.2.2.1.1
      have hf : rc k < 2000 := by have := (hrc k hk).2; omega
      refine v_iload_n C 1 dLH_allAtEnds_2 rfl rfl ?_
      refine v_aload_n C 0 dLH_allAtEnds_3 rfl rfl ?_
      refine v_geti C cfLH (k := 11) (by assumption) rfl w122 dLH_allAtEnds_4 ?_
      rw [h11]
      refine v_icmp_ge C 38 dLH_allAtEnds_7 (by decide) (fun h => absurd h (nI_ge hk (by omega))) (fun _ => ?_)
      refine v_aload_n C 0 dLH_allAtEnds_10 rfl rfl ?_
      refine v_iload_n C 1 dLH_allAtEnds_11 rfl rfl ?_
      refine v_cVr C (c_LH_subjectOf (kl x) (kD x) g I J hA h11 h6 hk q1) mwLH_subjectOf cfLH (by assumption) w171 ws0 w169 rfl rfl (ble rfl) (ble rfl) (ble rfl) (ble rfl) (ble rfl) dLH_allAtEnds_12 ?_
      refine v_getr C cfSu (k := 1) (by assumption) rfl (by assumption) w387 dLH_allAtEnds_15 ?_
      refine v_aload_n C 0 dLH_allAtEnds_18 rfl rfl ?_
      refine v_getr C cfLH (k := 8) (by assumption) rfl (by assumption) w119 dLH_allAtEnds_19 ?_
      refine v_iload_n C 1 dLH_allAtEnds_22 rfl rfl ?_
      refine v_iald C (by assumption) (by assumption) dLH_allAtEnds_23 ?_
      rw [hkc, (hrc k hk).1]
      refine v_cVi C (c_Sp_isEnd (kl x) (kD x) g I J hSp hf) mwSp_isEnd cfSp (by assumption) w321 w322 w618 rfl rfl (ble rfl) (ble rfl) (ble rfl) (ble rfl) (ble rfl) dLH_allAtEnds_24 ?_
      have ee : (if isE (I (sb k + 2) 6) (I (sb k + 2 + 1 + 1) (rc k)) then (1 : Int32) else 0) = endE d rc k := by
        unfold endE
        rw [(hsu k hk).2.2.2.2.2.1, ((hsu k hk).2.2.2.1.2 (rc k) (hrc k hk).2).1]
      rw [ee]
      by_cases hz : endE d rc k = 0
      · rw [hz]
        refine v_if_ne C 32 dLH_allAtEnds_27 (by decide) (fun h => absurd rfl h) (fun _ => ?_)
        refine v_iconst C 0 dLH_allAtEnds_30 (by decide) ?_
        exact v_zret C M (by first | exact Or.inl rfl | exact Or.inr rfl | assumption) dLH_allAtEnds_31 (ble rfl) (ble rfl) (pf_i (by rw [← he]; simp only [allA, if_pos hz]) rfl rfl)
      · refine v_if_ne C 32 dLH_allAtEnds_27 (by decide) (fun _ => ?_) (fun h => absurd h hz)
        refine v_iinc C (nI (k + 1)) dLH_allAtEnds_32 rfl (nI_1 k) (ble rfl) rfl ?_
        refine v_goto C 2 dLH_allAtEnds_35 (by decide) ?_
        refine ih (k + 1) (by omega) ?_
        rw [← he]
        simp only [allA, if_neg hz]
  exact loop (dno d) 0 (by omega) rfl
