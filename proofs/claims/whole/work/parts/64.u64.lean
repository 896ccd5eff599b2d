/-! a word by its bits -/
def gb (w : Int64) (i : Nat) : Bool := w.toBitVec.getLsbD i
theorem gb_ext {a b : Int64} (h : ∀ i, i < 64 → gb a i = gb b i) : a = b := Int64.toBitVec_inj.mp (BitVec.eq_of_getLsbD_eq h)
theorem gb_ge (w : Int64) {i : Nat} (h : 64 ≤ i) : gb w i = false := BitVec.getLsbD_of_ge _ _ h
theorem gb_and (a b : Int64) (i : Nat) : gb (a &&& b) i = (gb a i && gb b i) := by
  unfold gb
  rw [Int64.toBitVec_and, BitVec.getLsbD_and]
theorem gb_or (a b : Int64) (i : Nat) : gb (a ||| b) i = (gb a i || gb b i) := by
  unfold gb
  rw [Int64.toBitVec_or, BitVec.getLsbD_or]
theorem gb_not (a : Int64) {i : Nat} (h : i < 64) : gb (a ^^^ (-1)) i = !gb a i := by
  unfold gb
  rw [Int64.toBitVec_xor, BitVec.getLsbD_xor]
  have e : (-1 : Int64).toBitVec = BitVec.allOnes 64 := by decide
  rw [e, BitVec.getLsbD_allOnes]
  simp [h]
theorem shl_c : ∀ s, s < 64 → (((nI s).toInt64 &&& 63).toBitVec.smod 64).toNat = s := by decide +kernel
theorem shr_c : ∀ s, s < 64 → (((nI s).toInt64.toUInt64 &&& Int64.toUInt64 63).toBitVec % 64).toNat = s := by decide +kernel
theorem gb_shl (w : Int64) {s : Nat} (i : Nat) (hs : s < 64) : gb (jshl w (nI s)) i = (decide (i < 64) && !decide (i < s) && gb w (i - s)) := by
  unfold gb jshl
  rw [Int64.toBitVec_shiftLeft, BitVec.shiftLeft_eq', shl_c s hs, BitVec.getLsbD_shiftLeft]
theorem gb_shr (w : Int64) {s : Nat} (i : Nat) (hs : s < 64) : gb (jushr w (nI s)) i = gb w (s + i) := by
  unfold gb jushr
  rw [UInt64.toBitVec_toInt64, UInt64.toBitVec_shiftRight, BitVec.ushiftRight_eq', shr_c s hs, BitVec.getLsbD_ushiftRight, Int64.toBitVec_toUInt64]
theorem gb_lN {n : Nat} (i : Nat) : gb (lN n) i = (decide (i < 64) && n.testBit i) := by
  unfold gb lN
  show (BitVec.ofNat 64 n).getLsbD i = _
  rw [BitVec.getLsbD_ofNat]
theorem gb_nI {n : Nat} (i : Nat) (h : n < 2 ^ 31) : gb (nI n).toInt64 i = (decide (i < 64) && n.testBit i) := by
  rw [nI_l h, gb_lN]
theorem gb_0 (i : Nat) : gb 0 i = false := by
  unfold gb
  show (0#64).getLsbD i = false
  simp
theorem tb31 (i : Nat) : Nat.testBit 31 i = decide (i < 5) := Nat.testBit_two_pow_sub_one 5 i
theorem tb15 (i : Nat) : Nat.testBit 15 i = decide (i < 4) := Nat.testBit_two_pow_sub_one 4 i
theorem l31 : (31 : Int64) = lN 31 := rfl
theorem l15 : (15 : Int64) = lN 15 := rfl
theorem gb_31 (i : Nat) : gb 31 i = decide (i < 5) := by
  rw [l31, gb_lN, tb31]
  by_cases h : i < 5
  · simp [h]; omega
  · simp [h]
theorem gb_15 (i : Nat) : gb 15 i = decide (i < 4) := by
  rw [l15, gb_lN, tb15]
  by_cases h : i < 4
  · simp [h]; omega
  · simp [h]
/-- a small word as an int -/
theorem i32_small {w : Int64} {n k : Nat} (hk : k ≤ 31) (hn : n < 2 ^ k) (h : ∀ i, gb w i = (decide (i < k) && n.testBit i)) : w.toInt32 = nI n := by
  have hn31 : n < 2 ^ 31 := Nat.lt_of_lt_of_le hn (Nat.pow_le_pow_right (by decide) hk)
  have e : w = lN n := gb_ext fun i hi => by
    rw [h, gb_lN]
    by_cases hik : i < k
    · simp [hik, hi]
    · have : n.testBit i = false := Nat.testBit_lt_two_pow (Nat.lt_of_lt_of_le hn (Nat.pow_le_pow_right (by decide) (by omega)))
      simp [this]
  rw [e, lN_i]
/-- the number in k bits from s on -/
def fld (w : Int64) (s k : Nat) : Nat := w.toBitVec.toNat / 2 ^ s % 2 ^ k
theorem fld_lt (w : Int64) (s k : Nat) : fld w s k < 2 ^ k := Nat.mod_lt _ (Nat.pow_pos (by decide))
theorem fld_tb (w : Int64) (s k i : Nat) : (fld w s k).testBit i = (decide (i < k) && gb w (s + i)) := by
  unfold fld gb
  rw [Nat.testBit_mod_two_pow, Nat.testBit_div_two_pow, BitVec.testBit_toNat, Nat.add_comm]
theorem fld_eq {w : Int64} {s k n : Nat} (hn : n < 2 ^ k) (h : ∀ i, i < k → gb w (s + i) = n.testBit i) : fld w s k = n := by
  apply Nat.eq_of_testBit_eq
  intro i
  rw [fld_tb]
  by_cases hi : i < k
  · simp [hi, h i hi]
  · have : n.testBit i = false := Nat.testBit_lt_two_pow (Nat.lt_of_lt_of_le hn (Nat.pow_le_pow_right (by decide) (by omega)))
    simp [hi, this]
theorem gb_fld (w : Int64) {s k i : Nat} (h1 : s ≤ i) (h2 : i < s + k) : gb w i = (fld w s k).testBit (i - s) := by
  rw [fld_tb]
  have : i - s < k := by omega
  have e : s + (i - s) = i := by omega
  simp [this, e]
theorem and31 {w : Int64} {s : Nat} (hs : s < 64) : (jushr w (nI s) &&& 31).toInt32 = nI (fld w s 5) := by
  refine i32_small (k := 5) (by decide) (fld_lt w s 5) (fun i => ?_)
  rw [gb_and, gb_shr w i hs, gb_31, fld_tb]
  by_cases h : i < 5 <;> simp [h]
theorem and15 {w : Int64} {s : Nat} (hs : s < 64) : (jushr w (nI s) &&& 15).toInt32 = nI (fld w s 4) := by
  refine i32_small (k := 4) (by decide) (fld_lt w s 4) (fun i => ?_)
  rw [gb_and, gb_shr w i hs, gb_15, fld_tb]
  by_cases h : i < 4 <;> simp [h]
theorem a7 (a : Int32) : ∃ q, q < 8 ∧ a &&& 7 = nI q := pk_andE a (m := 7) 3 (by decide)
theorem m5 (q : Nat) : (5 : Int32) * nI q = nI (5 * q) := pk_mul 5 q
theorem m4 (q : Nat) : (4 : Int32) * nI q = nI (4 * q) := pk_mul 4 q
theorem rmH_fld {a : Int32} {w : Int64} {q : Nat} (hq : q < 8) (ha : a &&& 7 = nI q) : rmH a w = nI (fld w (5 * q) 5) := by
  unfold rmH
  rw [ha, m5]
  exact and31 (by omega)
theorem mapH_fld {a : Int32} {w : Int64} {q : Nat} (hq : q < 8) (ha : a &&& 7 = nI q) : mapH a w = nI (fld w (5 * q) 5) := by
  unfold mapH
  rw [ha, m5, ← and31 (by omega), Int64.toInt32_and]
  rfl
theorem thg_fld {w : Int64} {p : Nat} (hp : p < 16) : thg w (nI p) = nI (fld w (4 * p) 4) := by
  unfold thg
  rw [m4]
  exact and15 (by omega)
theorem remN_fld {w : Int64} {p : Nat} (hp : p < 16) : remN w (nI p) = nI (fld w (4 * p) 4) := by
  unfold remN
  rw [m4, ← and15 (by omega), Int64.toInt32_and]
  rfl
/-- clearing a field, setting it -/
theorem fld_clr {w : Int64} {p q : Nat} (hp : p < 8) (hq : q < 8) : fld (w &&& (jshl 31 (nI (5 * p)) ^^^ (-1))) (5 * q) 5 = if q = p then 0 else fld w (5 * q) 5 := by
  apply Nat.eq_of_testBit_eq
  intro i
  rw [fld_tb]
  by_cases hi : i < 5
  · have h64 : 5 * q + i < 64 := by omega
    rw [gb_and, gb_not _ h64, gb_shl _ _ (by omega), gb_31]
    by_cases hpq : q = p
    · subst hpq
      have h1 : ¬ (5 * q + i < 5 * q) := by omega
      have h2 : 5 * q + i - 5 * q < 5 := by omega
      rw [if_pos rfl]
      simp [h64, h1, h2, hi]
    · rw [if_neg hpq, fld_tb]
      by_cases h1 : 5 * q + i < 5 * p
      · simp [h1, hi]
      · have h2 : ¬ (5 * q + i - 5 * p < 5) := by omega
        simp [h2, hi]
  · have : (if q = p then 0 else fld w (5 * q) 5).testBit i = false := by
      split
      · simp
      · rw [fld_tb]; simp [hi]
    rw [this]
    simp [hi]
theorem fld_set {w : Int64} {p q v : Nat} (hp : p < 8) (hq : q < 8) (hv : v < 32) : fld (w ||| jshl (nI v).toInt64 (nI (5 * p))) (5 * q) 5 = if q = p then fld w (5 * q) 5 ||| v else fld w (5 * q) 5 := by
  apply Nat.eq_of_testBit_eq
  intro i
  rw [fld_tb]
  by_cases hi : i < 5
  · have h64 : 5 * q + i < 64 := by omega
    rw [gb_or, gb_shl _ _ (by omega), gb_nI _ (by omega)]
    by_cases hpq : q = p
    · subst hpq
      have h1 : ¬ (5 * q + i < 5 * q) := by omega
      have h2 : 5 * q + i - 5 * q = i := by omega
      have h3 : i < 64 := by omega
      rw [if_pos rfl, Nat.testBit_or, fld_tb]
      simp [h64, h1, h2, hi, h3]
    · rw [if_neg hpq, fld_tb]
      by_cases h1 : 5 * q + i < 5 * p
      · simp [h1, hi]
      · have h2 : 5 ≤ 5 * q + i - 5 * p := by omega
        have h3 : v.testBit (5 * q + i - 5 * p) = false := Nat.testBit_lt_two_pow (Nat.lt_of_lt_of_le (show v < 2 ^ 5 from hv) (Nat.pow_le_pow_right (by decide) h2))
        simp [h3, hi]
  · have : (if q = p then fld w (5 * q) 5 ||| v else fld w (5 * q) 5).testBit i = false := by
      have hv5 : v.testBit i = false := Nat.testBit_lt_two_pow (Nat.lt_of_lt_of_le (show v < 2 ^ 5 from hv) (Nat.pow_le_pow_right (by decide) (by omega)))
      split
      · rw [Nat.testBit_or, fld_tb, hv5]; simp [hi]
      · rw [fld_tb]; simp [hi]
    rw [this]
    simp [hi]
theorem nmF_le {N9 : Nat → Int32} {num : Int32} : ∀ (m i : Nat), nmF N9 num m i ≤ i + m
  | 0, _ => Nat.le_refl _
  | m + 1, i => by
    simp only [nmF]
    have := nmF_le (N9 := N9) (num := num) m (i + 1)
    split <;> omega
theorem rMap_ok {code a b : Int32} {nm : Nat} {bv : Nat → Int32} {w : Int64} (hn : nm < 16) (h : ∀ q, q < 8 → fld w (5 * q) 5 ≤ 16) : ∀ q, q < 8 → fld (rMap code a b (nI nm) bv w).1 (5 * q) 5 ≤ 16 := by
  intro q hq
  obtain ⟨p, hp, ep⟩ := a7 a
  unfold rMap
  simp only []
  rw [ep, m5]
  split
  · rename_i h0
    have hc : ¬ code = 1 := fun e => by rw [h0.1] at e; exact absurd e (by decide)
    rw [if_neg hc, nI_1, fld_set hp hq (by omega), fld_clr hp hq]
    split
    · rw [Nat.zero_or]
      omega
    · exact h q hq
  · split
    · exact h q hq
    · rw [fld_clr hp hq]
      split
      · omega
      · exact h q hq
theorem rchg_MapOK {R : Nat → Nat → Int32} {kind : Int32} {i sz : Nat} {w : Int64} (hi : i < 16) (h : MapOK kind w) : MapOK kind (rchg R kind i w sz).1 := by
  intro hk a
  have h5 : ∀ q, q < 8 → fld w (5 * q) 5 ≤ 16 := fun q hq => by
    obtain ⟨f, hf, ef⟩ := h hk (nI q)
    have e7 : nI q &&& 7 = nI q := by
      rw [pk_andN (n := q) (by omega) (m := 7) 3 (by decide), Nat.mod_eq_of_lt (show q < 2 ^ 3 from hq)]
    rw [rmH_fld hq e7] at ef
    have := (nI_eq (by have := fld_lt w (5 * q) 5; omega) (by omega)).mp ef
    omega
  obtain ⟨q, hq, eq⟩ := a7 a
  refine ⟨fld (rchg R kind i w sz).1 (5 * q) 5, ?_, rmH_fld hq eq⟩
  unfold rchg
  subst hk
  rw [if_neg (by decide), if_neg (by decide), if_pos rfl]
  have := nmF_le (N9 := fun j => R j 8) (num := R i 8) i 0
  exact rMap_ok (code := R i 6) (a := R i 7) (b := R i 8) (bv := fun j => R j 8) (nm := nmF (fun j => R j 8) (R i 8) i 0) (by omega) h5 q hq
