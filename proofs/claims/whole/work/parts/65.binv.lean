/-! what holds along a walk -/
def SOK (S : SF) : Prop := ∀ (key : Int32) (w : Int64) (p : Nat) (c : Int64 × Int32 × Int32) (m sz : Nat), p < 16 → KeyG key m sz → S key w p = some c → m.testBit p = false ∧ ∃ sz2, c.2.1 = nI sz2 ∧ KeyG (keyB key p c.2.1) (m ||| 2 ^ p) sz2
theorem stp_SOK (E : Nat → Nat → Int32) (kind ret own : Int32) : SOK (stp E kind ret own) := fun key w p c m sz hp hg h => by
  obtain ⟨s3, h1, h2, h3⟩ := stp_key hp hg h
  exact ⟨h2, s3, h1, h3⟩
theorem KeyOK.tb {key : Int32} {m sz p : Nat} (h : KeyOK key m sz) (hp : p < 16) : (m + 65536 * sz).testBit p = m.testBit p := by
  have e : m + 65536 * sz = 2 ^ 16 * sz + m := by omega
  rw [e, Nat.testBit_two_pow_mul_add sz (show m < 2 ^ 16 from h.2.1), if_pos hp]
theorem jis_bit {key : Int32} {m sz p : Nat} (h : KeyOK key m sz) (hp : p < 16) : (jis key (nI p) &&& 1) = if m.testBit p = true then 1 else 0 := by
  have hb := h.tb hp
  obtain ⟨rfl, h1, h2⟩ := h
  unfold jis
  have hlt : (m + 65536 * sz) / 2 ^ p < 2 ^ 32 := Nat.lt_of_le_of_lt (Nat.div_le_self _ _) (by omega)
  rw [pk_shrN (by omega) (nI p &&& 31) p (s_l p (by omega)), pk_andN hlt (m := 1) 1 (by decide), ← hb]
  rw [Nat.testBit_eq_decide_div_mod_eq]
  have h3 : (m + 65536 * sz) / 2 ^ p % 2 = 0 ∨ (m + 65536 * sz) / 2 ^ p % 2 = 1 := by omega
  rcases h3 with h3 | h3
  · rw [show 2 ^ 1 = 2 from rfl, h3]
    rfl
  · rw [show 2 ^ 1 = 2 from rfl, h3]
    rfl
theorem jis_sz {key : Int32} {m sz : Nat} (h : KeyOK key m sz) : jis key 16 = nI sz := by
  obtain ⟨rfl, h1, h2⟩ := h
  unfold jis
  rw [pk_shrN (by omega) (16 &&& 31) 16 (by decide)]
  congr 1
  omega
theorem rchg_size {R : Nat → Nat → Int32} {kind : Int32} {i k : Nat} {w : Int64} (hk : k ≤ 16) : ∃ k2, (rchg R kind i w k).2.1 = nI k2 ∧ k2 ≤ k + 1 := by
  unfold rchg
  split
  · exact ⟨k, rfl, by omega⟩
  split
  · exact ⟨k, rfl, by omega⟩
  split
  · exact ⟨k, rfl, by omega⟩
  unfold rSeq
  split
  · exact ⟨k, rfl, by omega⟩
  split
  · exact ⟨k + 1, nI_1 k, by omega⟩
  split
  · exact ⟨k, rfl, by omega⟩
  · rename_i h
    obtain ⟨j, rfl⟩ : ∃ j, k = j + 1 := ⟨k - 1, by omega⟩
    exact ⟨j, nI_pred j, by omega⟩
theorem rstp_some {R : Nat → Nat → Int32} {N : Nat → Nat} {kind : Int32} {cnt : Nat} {until_ own key : Int32} {w : Int64} {p : Nat} {c : Int64 × Int32 × Int32} (h : rstp R N kind cnt until_ own key w p = some c) : ¬ rBar R N cnt until_ own key p ∧ ¬ (bk (R p 11) until_ ∧ c.2.2 ≠ R p 9) ∧ c = rchg R kind p w (ix (jis key 16)) := by
  unfold rstp at h
  split at h
  · cases h
  · split at h
    · cases h
    · cases h
      rename_i h1 h2
      exact ⟨h1, h2, rfl⟩
theorem rstp_SOK (R : Nat → Nat → Int32) (N : Nat → Nat) (kind : Int32) (cnt : Nat) (until_ own : Int32) : SOK (rstp R N kind cnt until_ own) := fun key w p c m sz hp hg h => by
  obtain ⟨h1, h2, h3⟩ := rstp_some h
  obtain ⟨hk, hs⟩ := hg
  have hb : m.testBit p = false := by
    by_cases hb : m.testBit p = true
    · exact absurd (Or.inl (by rw [jis_bit hk hp, if_pos hb])) h1
    · simpa using hb
  have esz : ix (jis key 16) = sz := by rw [jis_sz hk]; exact nI_clamp (by have := hk.2.2; omega)
  rw [esz] at h3
  obtain ⟨k2, e1, e2⟩ := rchg_size (R := R) (kind := kind) (i := p) (w := w) hk.2.2
  have e3 : c.2.1 = nI k2 := by rw [h3]; exact e1
  have hpc := pcn16 hp hb
  have hle := pcn_le (m ||| 2 ^ p) 16
  refine ⟨hb, k2, e3, ?_, by omega⟩
  rw [e3]
  exact keyB_ok hk hp (by omega)
def pk9 (key : Int32) : Nat := pcn (ix (key &&& 65535)) 16
theorem pk9_eq {key : Int32} {m sz : Nat} (h : KeyG key m sz) : pk9 key = pcn m 16 := by
  unfold pk9
  rw [h.1.done]
  have e : ix (nI m) = m := nI_clamp (by have := h.1.2.1; omega)
  rw [e]
theorem SOK.pk {S : SF} (hS : SOK S) {key : Int32} {w : Int64} {p m sz : Nat} {c : Int64 × Int32 × Int32} (hp : p < 16) (hg : KeyG key m sz) (h : S key w p = some c) : ∃ m2 sz2, KeyG (keyB key p c.2.1) m2 sz2 ∧ c.2.1 = nI sz2 ∧ pk9 (keyB key p c.2.1) = pk9 key + 1 := by
  obtain ⟨h1, sz2, h2, h3⟩ := hS key w p c m sz hp hg h
  refine ⟨_, sz2, h3, h2, ?_⟩
  rw [pk9_eq h3, pk9_eq hg, pcn16 hp h1]
def BInv (f : Nat) (X : XS) : Prop := KInv X ∧ (∀ i j, i ≤ j → j < X.1 → pk9 (X.2.1 i) ≤ pk9 (X.2.1 j)) ∧ (∀ j, j < X.1 → pk9 (X.2.1 j) ≤ pk9 (X.2.1 f) + 1) ∧ ∀ i j, i < j → j < X.1 → ¬ (X.2.1 i = X.2.1 j ∧ X.2.2.1 i = X.2.2.1 j)
/-- what was there is there -/
def preX (X X2 : XS) : Prop := X.1 ≤ X2.1 ∧ ∀ i, i < X.1 → X2.2.1 i = X.2.1 i ∧ X2.2.2.1 i = X.2.2.1 i
theorem preX.rf (X : XS) : preX X X := ⟨Nat.le_refl _, fun _ _ => ⟨rfl, rfl⟩⟩
theorem preX.tr {X X2 X3 : XS} (h : preX X X2) (h2 : preX X2 X3) : preX X X3 := ⟨Nat.le_trans h.1 h2.1, fun i hi => ⟨((h2.2 i (by have := h.1; omega)).1).trans (h.2 i hi).1, ((h2.2 i (by have := h.1; omega)).2).trans (h.2 i hi).2⟩⟩
theorem xadd_BInv {X X2 : XS} {f m sz : Nat} {key : Int32} {w : Int64} (h : BInv f X) (hf : f < X.1) (hk : KeyG key m sz) (hp : pk9 key = pk9 (X.2.1 f) + 1) (e : xadd X f key w = some X2) : BInv f X2 ∧ preX X X2 := by
  obtain ⟨h1, h2, h3, h4⟩ := h
  have hK := (xadd_inv h1 hk e).1
  unfold xadd at e
  split at e
  · rename_i hl
    split at e
    · cases e
      have hno := (lk_spec X.2.1 X.2.2.1 key w X.1)
      have hno : ∀ i, i < X.1 → ¬ (X.2.1 i = key ∧ X.2.2.1 i = w) := by
        rcases hno with ⟨-, q⟩ | ⟨i, q1, q2, -⟩
        · exact q
        · rw [hl] at q2
          have h0 := nI_pos (n := i) (by have := h1.1; omega)
          rw [← q2] at h0
          exact absurd (by decide) h0
      have eo : ∀ i, i < X.1 → upF X.2.1 X.1 key i = X.2.1 i ∧ upF X.2.2.1 X.1 w i = X.2.2.1 i := fun i hi => by
        unfold upF
        rw [if_neg (by omega), if_neg (by omega)]
        exact ⟨rfl, rfl⟩
      have en : upF X.2.1 X.1 key X.1 = key ∧ upF X.2.2.1 X.1 w X.1 = w := by
        unfold upF
        rw [if_pos rfl, if_pos rfl]
        exact ⟨rfl, rfl⟩
      refine ⟨⟨hK, fun i j hij hj => ?_, fun j hj => ?_, fun i j hij hj => ?_⟩, Nat.le_succ _, fun i hi => eo i hi⟩
      · have hj : j < X.1 + 1 := hj
        show pk9 (upF X.2.1 X.1 key i) ≤ pk9 (upF X.2.1 X.1 key j)
        rcases Nat.lt_succ_iff_lt_or_eq.mp hj with hj | hj
        · rw [(eo i (by omega)).1, (eo j hj).1]
          exact h2 i j hij hj
        · subst hj
          rw [en.1, hp]
          rcases Nat.lt_or_ge i X.1 with hi | hi
          · rw [(eo i hi).1]
            exact h3 i hi
          · have : i = X.1 := by omega
            rw [this, en.1, hp]
            exact Nat.le_refl _
      · have hj : j < X.1 + 1 := hj
        show pk9 (upF X.2.1 X.1 key j) ≤ pk9 (upF X.2.1 X.1 key f) + 1
        rw [(eo f hf).1]
        rcases Nat.lt_succ_iff_lt_or_eq.mp hj with hj | hj
        · rw [(eo j hj).1]
          exact h3 j hj
        · subst hj
          rw [en.1, hp]
          exact Nat.le_refl _
      · have hj : j < X.1 + 1 := hj
        show ¬ (upF X.2.1 X.1 key i = upF X.2.1 X.1 key j ∧ upF X.2.2.1 X.1 w i = upF X.2.2.1 X.1 w j)
        rcases Nat.lt_succ_iff_lt_or_eq.mp hj with hj | hj
        · rw [(eo i (by omega)).1, (eo j hj).1, (eo i (by omega)).2, (eo j hj).2]
          exact h4 i j hij hj
        · subst hj
          rw [(eo i hij).1, (eo i hij).2, en.1, en.2]
          exact hno i hij
    · cases e
  · cases e
    exact ⟨⟨hK, h2, h3, h4⟩, Nat.le_refl _, fun _ _ => ⟨rfl, rfl⟩⟩
theorem bpl_BInv {S : SF} (hS : SOK S) {X X2 : XS} {f p : Nat} (h : BInv f X) (hf : f < X.1) (hp : p < 16) (e : bpl S f p X = some X2) : BInv f X2 ∧ preX X X2 := by
  unfold bpl at e
  split at e
  · cases e
    exact ⟨h, preX.rf X⟩
  · rename_i c hc
    obtain ⟨m, sz, hg⟩ := h.1.2 f hf
    obtain ⟨m2, s3, g2, -, g3⟩ := hS.pk hp hg hc
    exact xadd_BInv h hf g2 g3 e
theorem bpls_BInv {S : SF} (hS : SOK S) {f : Nat} : ∀ (q p : Nat) (X X2 : XS), p + q ≤ 16 → BInv f X → f < X.1 → bpls S f q p X = some X2 → BInv f X2 ∧ preX X X2
  | 0, _, X, X2, _, h, _, e => by
    have e : some X = some X2 := e
    cases e
    exact ⟨h, preX.rf X⟩
  | q + 1, p, X, X2, hp, h, hf, e => by
    simp only [bpls] at e
    cases hx : bpl S f p X with
    | none => rw [hx] at e; cases e
    | some X3 =>
      rw [hx] at e
      obtain ⟨h3, p3⟩ := bpl_BInv hS h hf (by omega) hx
      obtain ⟨h4, p4⟩ := bpls_BInv hS q (p + 1) X3 X2 (by omega) h3 (by have := p3.1; omega) e
      exact ⟨h4, p3.tr p4⟩
theorem BInv.next {f : Nat} {X : XS} (h : BInv f X) (hf : f + 1 < X.1) : BInv (f + 1) X := ⟨h.1, h.2.1, fun j hj => Nat.le_trans (h.2.2.1 j hj) (Nat.succ_le_succ (h.2.1 f (f + 1) (by omega) hf)), h.2.2.2⟩
theorem BInv.next' {f g : Nat} {X : XS} (h : BInv f X) (hf : f ≤ g) (hg : g < X.1) : BInv g X := ⟨h.1, h.2.1, fun j hj => Nat.le_trans (h.2.2.1 j hj) (Nat.succ_le_succ (h.2.1 f g hf hg)), h.2.2.2⟩
theorem X0_BInv : BInv 0 X0 := by
  refine ⟨⟨by decide, fun i hi => ⟨0, 0, ⟨rfl, by decide, by decide⟩, Nat.zero_le _⟩⟩, fun i j _ _ => Nat.le_refl _, fun j _ => Nat.le_succ _, fun i j h1 h2 => ?_⟩
  have h2 : j < 1 := h2
  omega
/-- the search from behind the one that is looked at -/
theorem srch_spec (K : Nat → Int32) (W9 : Nat → Int64) (key : Int32) (w : Int64) : ∀ q p : Nat, p ≤ srch K W9 key w q p ∧ (∀ i, p ≤ i → i < srch K W9 key w q p → ¬ (K i = key ∧ W9 i = w)) ∧ (srch K W9 key w q p = p + q ∨ srch K W9 key w q p < p + q ∧ K (srch K W9 key w q p) = key ∧ W9 (srch K W9 key w q p) = w)
  | 0, p => ⟨Nat.le_refl _, fun i h1 h2 => absurd h2 (by show ¬ i < p; omega), Or.inl rfl⟩
  | q + 1, p => by
    simp only [srch]
    by_cases h : K p = key ∧ W9 p = w
    · rw [if_pos h]
      exact ⟨Nat.le_refl _, fun i h1 h2 => by omega, Or.inr ⟨by omega, h⟩⟩
    · rw [if_neg h]
      obtain ⟨h1, h2, h3⟩ := srch_spec K W9 key w q (p + 1)
      refine ⟨by omega, fun i i1 i2 => ?_, ?_⟩
      · rcases Nat.lt_or_ge p i with h9 | h9
        · exact h2 i h9 i2
        · have : i = p := by omega
          rw [this]; exact h
      · rcases h3 with h3 | ⟨h3, h4⟩
        · left; omega
        · right; exact ⟨by omega, h4⟩
theorem srch_base {K K2 : Nat → Int32} {W9 W2 : Nat → Int64} {key : Int32} {w : Int64} {b : Nat} : ∀ q p : Nat, (∀ i, p ≤ i → i < p + q → K2 (b + i) = K i ∧ W2 (b + i) = W9 i) → srch K2 W2 key w q (b + p) = b + srch K W9 key w q p
  | 0, p, _ => rfl
  | q + 1, p, h => by
    simp only [srch]
    rw [(h p (Nat.le_refl _) (by omega)).1, (h p (Nat.le_refl _) (by omega)).2]
    split
    · rfl
    · exact srch_base q (p + 1) (fun i h1 h2 => h i (by omega) (by omega))
theorem lk_ne {i : Nat} (h : i < 2 ^ 31) : ¬ nI i = -1 := fun e => by
  have h0 := nI_pos h
  rw [e] at h0
  exact h0 (by decide)
theorem srch_lk {X : XS} {f q : Nat} {key : Int32} {w : Int64} (h : BInv f X) (hf : f < X.1) (hp : pk9 key = pk9 (X.2.1 f) + 1) (hq : f + 1 + q = X.1) : (lk X.2.1 X.2.2.1 key w X.1 = -1 ∧ srch X.2.1 X.2.2.1 key w q (f + 1) = X.1) ∨ ∃ i, i < X.1 ∧ lk X.2.1 X.2.2.1 key w X.1 = nI i ∧ srch X.2.1 X.2.2.1 key w q (f + 1) = i := by
  obtain ⟨s1, s2', s3⟩ := srch_spec X.2.1 X.2.2.1 key w q (f + 1)
  have hb := h.1.1
  rcases lk_spec X.2.1 X.2.2.1 key w X.1 with ⟨n1, n2⟩ | ⟨i, n1, n2, n3, n4⟩
  · left
    refine ⟨n1, ?_⟩
    rcases s3 with s3 | ⟨s3, s4⟩
    · omega
    · exact absurd s4 (n2 _ (by omega))
  · right
    refine ⟨i, n1, n2, ?_⟩
    have hfi : f < i := by
      rcases Nat.lt_or_ge f i with h9 | h9
      · exact h9
      · have := h.2.1 i f h9 hf
        rw [n3, hp] at this
        omega
    rcases Nat.lt_trichotomy (srch X.2.1 X.2.2.1 key w q (f + 1)) i with h9 | h9 | h9
    · rcases s3 with s3 | ⟨s3, s4, s5⟩
      · omega
      · exact absurd ⟨s4.trans n3.symm, s5.trans n4.symm⟩ (h.2.2.2 _ i h9 n1)
    · exact h9
    · exact absurd ⟨n3, n4⟩ (s2' i (by omega) h9)
