/-! a possibility's key: the done ones' bits, and the state's size above them -/
theorem nx_or (a b : Nat) : nI a ||| nI b = nI (a ||| b) := Int32.toBitVec_inj.mp (by
  rw [Int32.toBitVec_or]
  show BitVec.ofNat 32 a ||| BitVec.ofNat 32 b = BitVec.ofNat 32 (a ||| b)
  exact BitVec.ofNat_or.symm)
def KeyOK (key : Int32) (m sz : Nat) : Prop := key = nI (m + 65536 * sz) ∧ m < 65536 ∧ sz ≤ 16
theorem KeyOK.done {key : Int32} {m sz : Nat} (h : KeyOK key m sz) : key &&& 65535 = nI m := by
  obtain ⟨rfl, h1, h2⟩ := h
  rw [nx_mod]
  congr 1
  omega
theorem KeyOK.size {key : Int32} {m sz : Nat} (h : KeyOK key m sz) : jiu key 16 = nI sz := by
  obtain ⟨rfl, h1, h2⟩ := h
  have e : jiu (nI (m + 65536 * sz)) 16 = nI ((m + 65536 * sz) / 2 ^ 16) := pk_ushrN (by omega) 16 16 (by decide)
  rw [e]
  congr 1
  omega
theorem jbit {m p : Nat} (hm : m < 65536) (hp : p < 16) : (jiu (nI m) (nI p) &&& 1) = 0 ↔ m.testBit p = false := nx_bit hm hp
theorem or_lt16 {m p : Nat} (hm : m < 65536) (hp : p < 16) : m ||| 2 ^ p < 65536 := by
  have h1 : 2 ^ p < 2 ^ 16 := Nat.pow_lt_pow_right (by decide) hp
  exact Nat.or_lt_two_pow (n := 16) hm h1
theorem keyB_ok {key : Int32} {m sz sz2 p : Nat} (h : KeyOK key m sz) (hp : p < 16) (hz : sz2 ≤ 16) : KeyOK (keyB key p (nI sz2)) (m ||| 2 ^ p) sz2 := by
  have h1 : 2 ^ p < 2 ^ 16 := Nat.pow_lt_pow_right (by decide) hp
  have hor := or_lt16 h.2.1 hp
  refine ⟨?_, hor, hz⟩
  unfold keyB
  have e1 : jish 1 (nI p) = nI (1 * 2 ^ p) := pk_shlN (n := 1) (nI p &&& 31) p (s_l p (by omega)) (by omega)
  have e2 : jish (nI sz2) 16 = nI (sz2 * 2 ^ 16) := pk_shlN (n := sz2) (16 &&& 31) 16 (by decide) (by omega)
  rw [h.done, e1, e2, nx_or, nx_or, Nat.one_mul, Nat.or_comm]
  congr 1
  rw [← Nat.shiftLeft_eq, ← Nat.shiftLeft_add_eq_or_of_lt (i := 16) hor, Nat.shiftLeft_eq]
  omega
/-- how many bits below k -/
def pcn (m : Nat) : Nat → Nat
  | 0 => 0
  | k + 1 => pcn m k + (if m.testBit k = true then 1 else 0)
theorem pcn_le (m : Nat) : ∀ k : Nat, pcn m k ≤ k
  | 0 => Nat.le_refl _
  | k + 1 => by
    have := pcn_le m k
    simp only [pcn]
    split <;> omega
theorem pcn_or {m p : Nat} (hb : m.testBit p = false) : ∀ k : Nat, pcn (m ||| 2 ^ p) k = pcn m k + (if p < k then 1 else 0)
  | 0 => by simp [pcn]
  | k + 1 => by
    simp only [pcn]
    rw [pcn_or hb k, Nat.testBit_or, Nat.testBit_two_pow]
    by_cases h : p = k
    · subst h
      simp [hb]
    · have h2 : (p < k + 1) ↔ p < k := by omega
      simp only [h, decide_false, Bool.or_false, h2]
      omega
theorem pcn16 {m p : Nat} (hp : p < 16) (hb : m.testBit p = false) : pcn (m ||| 2 ^ p) 16 = pcn m 16 + 1 := by
  rw [pcn_or hb, if_pos hp]
/-- a key that can come: its size is no more than the bits -/
def KeyG (key : Int32) (m sz : Nat) : Prop := KeyOK key m sz ∧ sz ≤ pcn m 16
theorem chg_size {kind code a b nm : Int32} {av bv : Nat → Int32} {w : Int64} {k : Nat} (hk : k ≤ 16) : ∃ k2, (chg kind code a b nm av bv w (nI k)).2.1 = nI k2 ∧ k2 ≤ k + 1 := by
  unfold chg
  split
  · exact ⟨k, rfl, by omega⟩
  split
  · exact ⟨k, rfl, by omega⟩
  split
  · exact ⟨k, rfl, by omega⟩
  unfold chSeq
  split
  · exact ⟨k + 1, nI_1 k, by omega⟩
  split
  · split
    · rename_i h
      have h0 : 0 < k := by
        rcases Nat.eq_zero_or_pos k with e | e
        · rw [e] at h
          exact absurd h (by decide)
        · exact e
      refine ⟨k - 1, ?_, by omega⟩
      show nI k - 1 = nI (k - 1)
      obtain ⟨j, rfl⟩ : ∃ j, k = j + 1 := ⟨k - 1, by omega⟩
      exact nI_pred j
    · exact ⟨k, rfl, by omega⟩
  · exact ⟨k, rfl, by omega⟩
theorem stp_some {E : Nat → Nat → Int32} {kind ret own key : Int32} {w : Int64} {p : Nat} {c : Int64 × Int32 × Int32} (h : stp E kind ret own key w p = some c) : ¬ barred E own key p ∧ suits E ret p c.2.2 ∧ c = chgE E kind p w (jiu key 16) := by
  unfold stp at h
  split at h
  · cases h
  · split at h
    · cases h
      rename_i h1 h2
      exact ⟨h1, h2, rfl⟩
    · cases h
theorem stp_key {E : Nat → Nat → Int32} {kind ret own key : Int32} {w : Int64} {p m sz : Nat} {c : Int64 × Int32 × Int32} (hp : p < 16) (hg : KeyG key m sz) (h : stp E kind ret own key w p = some c) : ∃ sz2, c.2.1 = nI sz2 ∧ m.testBit p = false ∧ KeyG (keyB key p c.2.1) (m ||| 2 ^ p) sz2 := by
  obtain ⟨h1, h2, h3⟩ := stp_some h
  obtain ⟨hk, hs⟩ := hg
  have hb : m.testBit p = false := by
    by_cases hb : m.testBit p = false
    · exact hb
    · exfalso
      apply h1
      left
      rw [hk.done]
      intro e
      exact hb ((jbit hk.2.1 hp).mp e)
  have hpc := pcn16 hp hb
  have hle := pcn_le (m ||| 2 ^ p) 16
  rw [hk.size] at h3
  obtain ⟨k2, e1, e2⟩ := chg_size (kind := kind) (code := E p 1) (a := E p 2) (b := E p 3) (nm := E p 4) (av := fun i => E i 2) (bv := fun i => E i 3) (w := w) hk.2.2
  have e3 : c.2.1 = nI k2 := by rw [h3]; exact e1
  refine ⟨k2, e3, hb, ?_, by omega⟩
  rw [e3]
  exact keyB_ok hk hp (by omega)
/-! the walk of all possibilities: how many, keys, words, ways -/
abbrev XS : Type := Nat × (Nat → Int32) × (Nat → Int64) × (Nat → Int64)
def upF {α : Type} (f : Nat → α) (k : Nat) (v : α) : Nat → α := fun j => if j = k then v else f j
def xadd (X : XS) (f : Nat) (key : Int32) (w : Int64) : Option XS :=
  if lk X.2.1 X.2.2.1 key w X.1 = -1 then (if X.1 < 2000 then some (X.1 + 1, upF X.2.1 X.1 key, upF X.2.2.1 X.1 w, upF X.2.2.2 X.1 (X.2.2.2 f)) else none)
  else some (X.1, X.2.1, X.2.2.1, upF X.2.2.2 (ix (lk X.2.1 X.2.2.1 key w X.1)) (X.2.2.2 (ix (lk X.2.1 X.2.2.1 key w X.1)) + X.2.2.2 f))
def xpl (E : Nat → Nat → Int32) (kind ret own : Int32) (f p : Nat) (X : XS) : Option XS := match stp E kind ret own (X.2.1 f) (X.2.2.1 f) p with
  | none => some X
  | some c => xadd X f (keyB (X.2.1 f) p c.2.1) c.1
def xpls (E : Nat → Nat → Int32) (kind ret own : Int32) (f : Nat) : Nat → Nat → XS → Option XS
  | 0, _, X => some X
  | m + 1, p, X => match xpl E kind ret own f p X with
    | none => none
    | some X2 => xpls E kind ret own f m (p + 1) X2
def xfs (E : Nat → Nat → Int32) (kind ret own : Int32) (cnt : Nat) : Nat → Nat → XS → Option XS
  | 0, _, X => some X
  | m + 1, f, X => if f < X.1 then (match xpls E kind ret own f cnt 0 X with
    | none => none
    | some X2 => xfs E kind ret own cnt m (f + 1) X2) else some X
def X0 : XS := (1, fun _ => 0, fun _ => 0, fun _ => 1)
def xrun (E : Nat → Nat → Int32) (kind ret own : Int32) (cnt : Nat) : Option XS := xfs E kind ret own cnt 2000 0 X0
/-- all keys are such as can come -/
def KInv (X : XS) : Prop := X.1 ≤ 2000 ∧ ∀ i, i < X.1 → ∃ m sz, KeyG (X.2.1 i) m sz
theorem xadd_inv {X X2 : XS} {f : Nat} {key : Int32} {w : Int64} {m sz : Nat} (h : KInv X) (hk : KeyG key m sz) (e : xadd X f key w = some X2) : KInv X2 ∧ X.1 ≤ X2.1 := by
  unfold xadd at e
  split at e
  · split at e
    · cases e
      rename_i h9
      refine ⟨⟨h9, fun i hi => ?_⟩, Nat.le_succ _⟩
      by_cases hq : i = X.1
      · refine ⟨m, sz, ?_⟩
        show KeyG (upF X.2.1 X.1 key i) m sz
        unfold upF
        rw [if_pos hq]
        exact hk
      · have hi2 : i < X.1 + 1 := hi
        obtain ⟨m2, s3, h3⟩ := h.2 i (by omega)
        refine ⟨m2, s3, ?_⟩
        show KeyG (upF X.2.1 X.1 key i) m2 s3
        unfold upF
        rw [if_neg hq]
        exact h3
    · cases e
  · cases e
    exact ⟨h, Nat.le_refl _⟩
theorem xpl_inv {E : Nat → Nat → Int32} {kind ret own : Int32} {f p : Nat} {X X2 : XS} (h : KInv X) (hf : f < X.1) (hp : p < 16) (e : xpl E kind ret own f p X = some X2) : KInv X2 ∧ X.1 ≤ X2.1 := by
  unfold xpl at e
  split at e
  · cases e
    exact ⟨h, Nat.le_refl _⟩
  · rename_i c hc
    obtain ⟨m, sz, hg⟩ := h.2 f hf
    obtain ⟨s3, -, -, h3⟩ := stp_key hp hg hc
    exact xadd_inv h h3 e
