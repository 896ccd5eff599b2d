/-! CLASS AND REFERENCE, one operation: words are equal, but for maps -/
theorem gb_low : ∀ s, s < 64 → ∀ i, i < 64 → gb (jshl 1 (nI s) - 1) i = decide (i < s) := by decide +kernel
abbrev nib (w : Int64) (i : Nat) : Nat := fld w (4 * i) 4
theorem nib_lt (w : Int64) (i : Nat) : nib w i < 16 := fld_lt w (4 * i) 4
theorem gb_nib (w : Int64) {i j : Nat} (hj : j < 4) : gb w (4 * i + j) = (nib w i).testBit j := by
  rw [gb_fld w (s := 4 * i) (k := 4) (by omega) (by omega)]
  congr 1
  omega
/-- insertion by bits -/
theorem gb_ins {w : Int64} {p nm : Nat} (hp : p < 16) (hn : nm < 16) (i : Nat) (hi : i < 64) : gb (insW w (nI p) (nI nm)) i = if i < 4 * p then gb w i else if i < 4 * p + 4 then nm.testBit (i - 4 * p) else gb w (i - 4) := by
  unfold insW
  rw [m4]
  have e4 : (4 : Int32) = nI 4 := rfl
  rw [e4, gb_or, gb_or, gb_and, gb_low _ (by omega) _ hi, gb_shl _ _ (by omega), gb_nI _ (by omega), gb_shl _ _ (by decide)]
  by_cases h1 : i < 4 * p
  · rw [if_pos h1]
    by_cases h4 : i < 4
    · simp [h1, h4]
    · rw [gb_shl _ _ (by omega)]
      have h5 : i - 4 < 4 * p := by omega
      simp [h1, h5]
  · rw [if_neg h1]
    by_cases h2 : i < 4 * p + 4
    · rw [if_pos h2]
      have hs : i - 4 * p < 64 := by omega
      by_cases h4 : i < 4
      · simp [h1, h4, hs, hi]
      · rw [gb_shl _ _ (by omega)]
        have h5 : i - 4 < 4 * p := by omega
        simp [h1, h5, hs, hi]
    · rw [if_neg h2]
      have h4 : ¬ i < 4 := by omega
      have h5 : ¬ i - 4 < 4 * p := by omega
      have h6 : nm.testBit (i - 4 * p) = false := Nat.testBit_lt_two_pow (Nat.lt_of_lt_of_le (show nm < 2 ^ 4 from hn) (Nat.pow_le_pow_right (by decide) (by omega)))
      have h7 : i - 4 < 64 := by omega
      rw [gb_shl _ _ (by omega), gb_shr _ _ (by omega)]
      have e : 4 * p + (i - 4 - 4 * p) = i - 4 := by omega
      simp [h1, h4, h5, h6, hi, h7, e]
theorem gb_rins {w : Int64} {p sz nm : Nat} (hp : p ≤ sz) (hz : sz < 16) (hn : nm < 16) (hw : ∀ i, 4 * sz ≤ i → gb w i = false) (i : Nat) (hi : i < 64) : gb (rins w (nI p) (nI sz) (nI nm)) i = if i < 4 * p then gb w i else if i < 4 * p + 4 then nm.testBit (i - 4 * p) else gb w (i - 4) := by
  have elow : gb (if nI p = 0 then 0 else jushr (jshl w (64 - 4 * nI p)) (64 - 4 * nI p)) i = (decide (i < 4 * p) && gb w i) := by
    by_cases h0 : p = 0
    · subst h0
      rw [if_pos nI_0, gb_0]
      simp
    · rw [if_neg (nI_ne0 (by omega) (by omega)), m4, show (64 : Int32) = nI 64 from rfl, pk_sub (by omega), gb_shr _ _ (by omega)]
      by_cases h1 : i < 4 * p
      · rw [gb_shl _ _ (by omega)]
        have h2 : 64 - 4 * p + i < 64 := by omega
        have h3 : 64 - 4 * p + i - (64 - 4 * p) = i := by omega
        simp [h1, h2, h3]
      · rw [gb_ge _ (by omega)]
        simp [h1]
  have ehigh : gb (if nI p = nI sz then 0 else jshl (jushr w (4 * nI p)) (4 * nI p + 4)) i = (decide (4 * p + 4 ≤ i) && gb w (i - 4)) := by
    by_cases h0 : p = sz
    · subst h0
      rw [if_pos rfl, gb_0]
      by_cases h1 : 4 * p + 4 ≤ i
      · rw [hw (i - 4) (by omega)]
        simp
      · simp [h1]
    · rw [if_neg (fun e => h0 ((nI_eq (by omega) (by omega)).mp e)), m4, show (4 : Int32) = nI 4 from rfl, nI_add, gb_shl _ _ (by omega)]
      by_cases h1 : 4 * p + 4 ≤ i
      · have h2 : ¬ i < 4 * p + 4 := by omega
        rw [gb_shr _ _ (by omega)]
        have e : 4 * p + (i - (4 * p + 4)) = i - 4 := by omega
        simp [h1, h2, hi, e]
      · have h2 : i < 4 * p + 4 := by omega
        simp [h1, h2]
  unfold rins
  rw [gb_or, gb_or, elow, ehigh, m4, gb_shl _ _ (by omega), gb_nI _ (by omega)]
  by_cases h1 : i < 4 * p
  · have h2 : ¬ 4 * p + 4 ≤ i := by omega
    rw [if_pos h1]
    simp [h1, h2]
  · rw [if_neg h1]
    have hs : i - 4 * p < 64 := by omega
    by_cases h2 : i < 4 * p + 4
    · have h3 : ¬ 4 * p + 4 ≤ i := by omega
      rw [if_pos h2]
      simp [h1, h3, hs, hi]
    · have h3 : 4 * p + 4 ≤ i := by omega
      rw [if_neg h2]
      have h6 : nm.testBit (i - 4 * p) = false := Nat.testBit_lt_two_pow (Nat.lt_of_lt_of_le (show nm < 2 ^ 4 from hn) (Nat.pow_le_pow_right (by decide) (by omega)))
      simp [h1, h3, h6]
theorem ins_rins {w : Int64} {p sz nm : Nat} (hp : p ≤ sz) (hz : sz < 16) (hn : nm < 16) (hw : ∀ i, 4 * sz ≤ i → gb w i = false) : rins w (nI p) (nI sz) (nI nm) = insW w (nI p) (nI nm) := gb_ext fun i hi => by rw [gb_rins hp hz hn hw i hi, gb_ins (by omega) hn i hi]
/-- among equal names the place doesn't matter -/
theorem ins_next {w : Int64} {p nm : Nat} (hp : p + 1 < 16) (hn : nm < 16) (he : nib w p = nm) : insW w (nI (p + 1)) (nI nm) = insW w (nI p) (nI nm) := gb_ext fun i hi => by
  rw [gb_ins hp hn i hi, gb_ins (by omega) hn i hi]
  have hb : ∀ j, j < 4 → gb w (4 * p + j) = nm.testBit j := fun j hj => by rw [gb_nib w hj, he]
  by_cases h1 : i < 4 * p
  · rw [if_pos (by omega), if_pos h1]
  · rw [if_neg h1]
    by_cases h2 : i < 4 * p + 4
    · rw [if_pos (by omega), if_pos h2]
      have := hb (i - 4 * p) (by omega)
      rw [← this]
      congr 1
      omega
    · rw [if_neg (by omega), if_neg h2]
      by_cases h3 : i < 4 * (p + 1) + 4
      · rw [if_pos h3]
        have := hb (i - 4 * (p + 1)) (by omega)
        rw [← this]
        congr 1
        omega
      · rw [if_neg h3]
theorem ins_upto {w : Int64} {p nm : Nat} (hn : nm < 16) : ∀ q, p + q < 16 → (∀ i, p ≤ i → i < p + q → nib w i = nm) → insW w (nI (p + q)) (nI nm) = insW w (nI p) (nI nm)
  | 0, _, _ => rfl
  | q + 1, hq, h => by
    have e := ins_next (w := w) (p := p + q) (by omega) hn (h (p + q) (by omega) (by omega))
    rw [show p + (q + 1) = p + q + 1 by omega, e]
    exact ins_upto hn q (by omega) (fun i h1 h2 => h i h1 (by omega))
theorem nib_ins {w : Int64} {p nm i : Nat} (hp : p < 16) (hn : nm < 16) (hi : i < 16) : nib (insW w (nI p) (nI nm)) i = if i < p then nib w i else if i = p then nm else nib w (i - 1) := by
  have hr : (if i < p then nib w i else if i = p then nm else nib w (i - 1)) < 2 ^ 4 := by
    split
    · exact nib_lt w i
    · split
      · exact hn
      · exact nib_lt w (i - 1)
  refine fld_eq hr (fun j hj => ?_)
  rw [gb_ins hp hn _ (by omega)]
  by_cases h1 : i < p
  · rw [if_pos (by omega), if_pos h1, gb_nib w hj]
  · rw [if_neg (by omega), if_neg h1]
    by_cases h2 : i = p
    · rw [if_pos (by omega), if_pos h2]
      congr 1
      omega
    · rw [if_neg (by omega), if_neg h2, ← gb_nib w hj]
      congr 1
      omega
theorem ins_top {w : Int64} {p sz nm : Nat} (hp : p ≤ sz) (hz : sz < 16) (hn : nm < 16) (hw : ∀ i, 4 * sz ≤ i → gb w i = false) : ∀ i, 4 * (sz + 1) ≤ i → gb (insW w (nI p) (nI nm)) i = false := fun i hi => by
  by_cases h64 : i < 64
  · rw [gb_ins (by omega) hn i h64, if_neg (by omega)]
    by_cases h2 : i < 4 * p + 4
    · omega
    · rw [if_neg h2]
      exact hw _ (by omega)
  · exact gb_ge _ (by omega)
/-- removal -/
theorem gb_rem {w : Int64} {p : Nat} (hp : p < 16) (i : Nat) (hi : i < 64) : gb (remW w (nI p)) i = if i < 4 * p then gb w i else gb w (i + 4) := by
  unfold remW
  rw [m4]
  have e4 : (4 : Int32) = nI 4 := rfl
  rw [e4, gb_or, gb_and, gb_low _ (by omega) _ hi, gb_shl _ _ (by omega)]
  by_cases h1 : i < 4 * p
  · rw [if_pos h1]
    simp [h1]
  · rw [if_neg h1, gb_shr _ _ (by decide), gb_shr _ _ (by omega)]
    have e : 4 * p + (4 + (i - 4 * p)) = i + 4 := by omega
    simp [h1, hi, e]
theorem nib_rem {w : Int64} {p i : Nat} (hp : p < 16) (hi : i < 16) : nib (remW w (nI p)) i = if i < p then nib w i else nib w (i + 1) := by
  have hr : (if i < p then nib w i else nib w (i + 1)) < 2 ^ 4 := by
    split
    · exact nib_lt w i
    · exact nib_lt w (i + 1)
  refine fld_eq hr (fun j hj => ?_)
  rw [gb_rem hp _ (by omega)]
  by_cases h1 : i < p
  · rw [if_pos (by omega), if_pos h1, gb_nib w hj]
  · rw [if_neg (by omega), if_neg h1, ← gb_nib w hj]
    congr 1
    omega
theorem rem_top {w : Int64} {p sz : Nat} (hp : p < sz) (hz : sz ≤ 16) (hw : ∀ i, 4 * sz ≤ i → gb w i = false) : ∀ i, 4 * (sz - 1) ≤ i → gb (remW w (nI p)) i = false := fun i hi => by
  by_cases h64 : i < 64
  · rw [gb_rem (by omega) i h64, if_neg (by omega)]
    exact hw _ (by omega)
  · exact gb_ge _ (by omega)
theorem rem_0 (w : Int64) : jushr w 4 = remW w (nI 0) := gb_ext fun i hi => by
  rw [gb_rem (by decide) i hi, if_neg (by omega), show (4 : Int32) = nI 4 from rfl, gb_shr _ _ (by decide), Nat.add_comm]
theorem rem_last {w : Int64} {s : Nat} (hs : s < 16) (hw : ∀ i, 4 * (s + 1) ≤ i → gb w i = false) : w &&& (jshl 15 (nI (4 * s)) ^^^ (-1)) = remW w (nI s) := gb_ext fun i hi => by
  rw [gb_rem hs i hi, gb_and, gb_not _ hi, gb_shl _ _ (by omega), gb_15]
  by_cases h1 : i < 4 * s
  · rw [if_pos h1]
    simp [h1]
  · rw [if_neg h1, hw (i + 4) (by omega)]
    by_cases h2 : i < 4 * s + 4
    · have : i - 4 * s < 4 := by omega
      simp [h1, hi, this]
    · rw [hw i (by omega)]
      simp
/-- the first of the same number -/
theorem nmF_spec {N9 : Nat → Int32} {num : Int32} : ∀ (m i : Nat), i ≤ nmF N9 num m i ∧ nmF N9 num m i ≤ i + m ∧ (∀ j, i ≤ j → j < nmF N9 num m i → N9 j ≠ num) ∧ (nmF N9 num m i < i + m → N9 (nmF N9 num m i) = num)
  | 0, i => ⟨Nat.le_refl _, Nat.le_refl _, fun j h1 h2 => by have h2 : j < i := h2; omega, fun h => by have h : i < i + 0 := h; omega⟩
  | m + 1, i => by
    simp only [nmF]
    by_cases h : N9 i = num
    · rw [if_pos h]
      exact ⟨Nat.le_refl _, by omega, fun j h1 h2 => by omega, fun _ => h⟩
    · rw [if_neg h]
      obtain ⟨h1, h2, h3, h4⟩ := nmF_spec (N9 := N9) (num := num) m (i + 1)
      refine ⟨by omega, by omega, fun j j1 j2 => ?_, fun h => h4 (by omega)⟩
      rcases Nat.lt_or_ge i j with h9 | h9
      · exact h3 j h9 j2
      · have : j = i := by omega
        rw [this]; exact h
/-- a name: none before it has its number -/
def canon (av : Nat → Int32) (c : Nat) : Prop := ∀ j, j < c → av j ≠ av c
theorem nm_canon {av : Nat → Int32} (p : Nat) : canon av (nmF av (av p) p 0) ∧ av (nmF av (av p) p 0) = av p ∧ nmF av (av p) p 0 ≤ p := by
  obtain ⟨h1, h2, h3, h4⟩ := nmF_spec (N9 := av) (num := av p) p 0
  have e : av (nmF av (av p) p 0) = av p := by
    rcases Nat.lt_or_ge (nmF av (av p) p 0) p with h | h
    · exact h4 (by omega)
    · have : nmF av (av p) p 0 = p := by omega
      rw [this]
  exact ⟨fun j hj => by rw [e]; exact h3 j (Nat.zero_le _) hj, e, by omega⟩
theorem canon_eq {av : Nat → Int32} {c d : Nat} (hc : canon av c) (hd : canon av d) (e : av c = av d) : c = d := by
  rcases Nat.lt_trichotomy c d with h | h | h
  · exact absurd e (hd c h)
  · exact h
  · exact absurd e.symm (hc d h)
/-- the class's place in a heap -/
theorem plc_spec {av : Nat → Int32} {num : Int32} {sz : Nat} (hz : sz < 16) (w : Int64) : ∀ (n p : Nat) (names : Int64), p ≤ sz → sz + 1 ≤ p + n → (∀ i, i < 64 → gb names i = gb w (4 * p + i)) → ∃ q, plc av num (nI sz) n (nI p) names = nI q ∧ p ≤ q ∧ q ≤ sz ∧ (∀ i, p ≤ i → i < q → av (nib w i) < num) ∧ (q < sz → num ≤ av (nib w q))
  | 0, p, _, h1, h2, _ => by omega
  | n + 1, p, names, h1, h2, h3 => by
    simp only [plc]
    by_cases hp : p = sz
    · subst hp
      rw [if_pos (nI_le (Nat.le_refl _) (by omega))]
      exact ⟨p, rfl, Nat.le_refl _, Nat.le_refl _, fun i a b => by omega, fun h => by omega⟩
    · rw [if_neg (nI_ge (by omega) (by omega))]
      have en : names.toInt32 &&& 15 = nI (nib w p) := by
        have e := and15 (w := names) (s := 0) (by decide)
        have e0 : jushr names (nI 0) = names := gb_ext fun i hi => by rw [gb_shr _ _ (by decide), Nat.zero_add]
        rw [e0, Int64.toInt32_and] at e
        have e1 : fld names 0 4 = nib w p := fld_eq (nib_lt w p) (fun j hj => by rw [h3 _ (by omega), Nat.zero_add, gb_nib w hj])
        rw [e1] at e
        exact e
      have ei : ix (nI (nib w p)) = nib w p := nI_clamp (by have := nib_lt w p; omega)
      rw [en, ei]
      by_cases hc : num ≤ av (nib w p)
      · rw [if_pos hc]
        exact ⟨p, rfl, Nat.le_refl _, h1, fun i a b => by omega, fun _ => hc⟩
      · rw [if_neg hc, nI_1]
        obtain ⟨q, q1, q2, q3, q4, q5⟩ := plc_spec (av := av) (num := num) hz w n (p + 1) (jushr names 4) (by omega) (by omega) (fun i hi => by
          rw [show (4 : Int32) = nI 4 from rfl, gb_shr _ _ (by decide)]
          by_cases h9 : 4 + i < 64
          · rw [h3 _ h9]
            congr 1
            omega
          · rw [gb_ge _ (by omega), gb_ge _ (by omega)])
        refine ⟨q, q1, by omega, q3, fun i a b => ?_, q5⟩
        rcases Nat.lt_or_ge p i with h9 | h9
        · exact q4 i h9 b
        · have : i = p := by omega
          rw [this]
          exact Int32.not_le.mp hc
theorem rplc_spec {av : Nat → Int32} {a : Int32} {w : Int64} : ∀ p : Nat, p ≤ 16 → (∀ i, rplc av a w p ≤ i → i < p → a < av (nib w i)) ∧ (0 < rplc av a w p → av (nib w (rplc av a w p - 1)) ≤ a)
  | 0, _ => ⟨fun i h1 h2 => by omega, fun h => by have h : 0 < 0 := h; omega⟩
  | p + 1, hp => by
    have ei : ix (thg w (nI p)) = nib w p := by
      rw [thg_fld (by omega)]
      have h : nib w p < 2 ^ 31 := Nat.lt_trans (nib_lt w p) (by decide)
      exact nI_clamp h
    simp only [rplc]
    rw [ei]
    by_cases h : a < av (nib w p)
    · rw [if_pos h]
      obtain ⟨h1, h2⟩ := rplc_spec (av := av) (a := a) (w := w) p (by omega)
      refine ⟨fun i i1 i2 => ?_, h2⟩
      rcases Nat.lt_or_ge i p with h9 | h9
      · exact h1 i i1 h9
      · have : i = p := by omega
        rw [this]; exact h
    · rw [if_neg h]
      exact ⟨fun i i1 i2 => by omega, fun _ => Int32.not_lt.mp h⟩
/-- words of queues, stacks and heaps -/
def SeqW (av : Nat → Int32) (n : Nat) (kind : Int32) (sz : Nat) (w : Int64) : Prop := (∀ i, 4 * sz ≤ i → gb w i = false) ∧ (∀ i, i < sz → nib w i < n ∧ canon av (nib w i)) ∧ (kind = 4 → ∀ i j, i < j → j < sz → av (nib w i) ≤ av (nib w j))
theorem heap_place {av : Nat → Int32} {n sz p : Nat} {w : Int64} (h : SeqW av n 4 sz w) (hz : sz < 16) : ∃ q, plc av (av p) (nI sz) 17 0 w = nI q ∧ q ≤ sz ∧ insW w (nI (rplc av (av p) w sz)) (nI (nmF av (av p) p 0)) = insW w (nI q) (nI (nmF av (av p) p 0)) ∧ (∀ i, i < q → av (nib w i) ≤ av p) ∧ (∀ i, q ≤ i → i < sz → av p ≤ av (nib w i)) := by
  obtain ⟨q, q1, -, q3, q4, q5⟩ := plc_spec (av := av) (num := av p) hz w 17 0 w (Nat.zero_le _) (by omega) (fun i _ => by rw [Nat.mul_zero, Nat.zero_add])
  obtain ⟨r1, r2⟩ := rplc_spec (av := av) (a := av p) (w := w) sz (by omega)
  have r3 := rplc_le av (av p) w sz
  generalize rplc av (av p) w sz = r at r1 r2 r3
  have hqr : q ≤ r := by
    rcases Nat.lt_or_ge r q with h9 | h9
    · have x1 := q4 r (Nat.zero_le _) h9
      have x2 := r1 r (Nat.le_refl _) (by omega)
      exact absurd x1 (Int32.not_lt.mpr (Int32.le_of_lt x2))
    · exact h9
  have hge : ∀ i, q ≤ i → i < sz → av p ≤ av (nib w i) := fun i i1 i2 => by
    have x0 := q5 (by omega)
    rcases Nat.lt_or_ge q i with h9 | h9
    · exact Int32.le_trans x0 (h.2.2 rfl q i h9 i2)
    · have : i = q := by omega
      rw [this]; exact x0
  have hnm := nm_canon (av := av) p
  have hn16 : nmF av (av p) p 0 < 16 ∨ 16 ≤ nmF av (av p) p 0 := Nat.lt_or_ge _ _
  refine ⟨q, q1, q3, ?_, fun i hi => Int32.le_of_lt (q4 i (Nat.zero_le _) hi), hge⟩
  rcases Nat.lt_or_ge q r with h9 | h9
  · have heq : ∀ i, q ≤ i → i < r → nib w i = nmF av (av p) p 0 := fun i i1 i2 => by
      have x1 := hge i i1 (by omega)
      have x2 := r2 (by omega)
      have x3 : av (nib w i) ≤ av p := by
        rcases Nat.lt_or_ge i (r - 1) with h8 | h8
        · exact Int32.le_trans (h.2.2 rfl i (r - 1) h8 (by omega)) x2
        · have : i = r - 1 := by omega
          rw [this]; exact x2
      have x4 : av (nib w i) = av p := Int32.le_antisymm x3 x1
      exact canon_eq (h.2.1 i (by omega)).2 hnm.1 (by rw [x4, hnm.2.1])
    have hlt : nmF av (av p) p 0 < 16 := by rw [← heq q (Nat.le_refl _) h9]; exact nib_lt w q
    have e := ins_upto (w := w) (p := q) hlt (r - q) (by omega) (fun i i1 i2 => heq i i1 (by omega))
    rw [show q + (r - q) = r by omega] at e
    exact e
  · have : r = q := by omega
    rw [this]
