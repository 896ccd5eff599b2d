/-! CLASS AND REFERENCE, the walks -/
def OD (E R : Nat → Nat → Int32) (N : Nat → Nat) (kind ret : Int32) (n cnt : Nat) (until_ : Int32) : Prop :=
  n ≤ cnt ∧ cnt ≤ 16 ∧ (∀ i, i < n → OpR E R kind i) ∧
  (∃ rt, ret = nI rt ∧ rt < 65536 ∧ ∀ i, i < 16 → (rt.testBit i = true ↔ i < n ∧ bk (R i 11) until_)) ∧ (∀ i, i < n → bk (R i 11) until_ → E i 5 = R i 9) ∧
  (∀ i, i < n → R i 10 ≤ until_) ∧ (∀ i, n ≤ i → i < cnt → until_ < R i 10) ∧ (∀ i, i < cnt → 0 < R i 11 → R i 10 < R i 11) ∧
  (∀ i, i < n → ∃ er, E i 6 = nI er ∧ er < 65536 ∧ ∀ j, j < 16 → (er.testBit j = true ↔ j < n ∧ 0 < R j 11 ∧ R j 11 < R i 10)) ∧
  (∀ i, i < n → ∃ ow, E i 7 = nI ow ∧ ow < 65536 ∧ ∀ j, j < 16 → (ow.testBit j = true ↔ j < i ∧ R j 4 = R i 4)) ∧
  ∀ i j, i < cnt → j < cnt → (nI (N i) < nI (N j) ↔ i < j)
theorem i32_gb (x y : Int32) : x = y ↔ ∀ j, j < 32 → x.toBitVec.getLsbD j = y.toBitVec.getLsbD j := ⟨fun h j _ => by rw [h], fun h => Int32.toBitVec_inj.mp (BitVec.eq_of_getLsbD_eq h)⟩
theorem nI_gb (n j : Nat) : (nI n).toBitVec.getLsbD j = (decide (j < 32) && n.testBit j) := by
  show (BitVec.ofNat 32 n).getLsbD j = _
  rw [BitVec.getLsbD_ofNat]
theorem msk {er m : Nat} (h1 : er < 65536) : (nI er &&& (nI m ^^^ (-1))) = 0 ↔ ∀ j, j < 16 → er.testBit j = true → m.testBit j = true := by
  have eb : ∀ j, j < 32 → (nI er &&& (nI m ^^^ (-1))).toBitVec.getLsbD j = (er.testBit j && !m.testBit j) := fun j hj => by
    have e : (-1 : Int32).toBitVec = BitVec.allOnes 32 := by decide
    rw [Int32.toBitVec_and, Int32.toBitVec_xor, BitVec.getLsbD_and, BitVec.getLsbD_xor, nI_gb, nI_gb, e, BitVec.getLsbD_allOnes]
    simp [hj]
  have e0 : ∀ j, (0 : Int32).toBitVec.getLsbD j = false := fun j => by
    show (0#32).getLsbD j = false
    simp
  rw [i32_gb]
  constructor
  · intro h j hj ht
    have := h j (by omega)
    rw [eb j (by omega), e0, ht] at this
    simpa using this
  · intro h j hj
    rw [eb j hj, e0]
    rcases Nat.lt_or_ge j 16 with h9 | h9
    · by_cases ht : er.testBit j = true
      · rw [ht, h j h9 ht]; rfl
      · simp [ht]
    · have : er.testBit j = false := Nat.testBit_lt_two_pow (Nat.lt_of_lt_of_le (show er < 2 ^ 16 from h1) (Nat.pow_le_pow_right (by decide) h9))
      rw [this]; rfl
theorem bf_iff (b : Bool) : ¬ b = true ↔ b = false := by cases b <;> simp
theorem sim_bar {E R : Nat → Nat → Int32} {N : Nat → Nat} {kind ret : Int32} {n cnt : Nat} {until_ own key : Int32} {m sz p : Nat} (h : OD E R N kind ret n cnt until_) (ho : own = 0 ∨ own = 1) (hg : KeyG key m sz) (hp : p < n) : barred E own key p ↔ rBar R N cnt until_ own key p := by
  obtain ⟨h1, h2, hO, -, -, h6, h7, h8, h9, h10, h11⟩ := h
  have hk := hg.1
  have hbit : (jiu (key &&& 65535) (nI p) &&& 1) ≠ 0 ↔ m.testBit p = true := by
    rw [hk.done, ne_eq, jbit hk.2.1 (by omega)]
    cases m.testBit p <;> simp
  have hrb : ∀ j, j < cnt → ((jis key (nI j) &&& 1) = 1 ↔ m.testBit j = true) ∧ ((jis key (nI j) &&& 1) = 0 ↔ m.testBit j = false) := fun j hj => by
    rw [jis_bit hk (by omega)]
    by_cases ht : m.testBit j = true
    · rw [if_pos ht, ht]; decide
    · rw [if_neg ht]
      have ht := (bf_iff _).mp ht
      rw [ht]; decide
  have hu : ¬ until_ < R p 10 := Int32.not_lt.mpr (h6 p hp)
  have hX : ∃ x, (if own = 0 then E p 6 else E p 7) = nI x ∧ x < 65536 ∧ ∀ j, j < 16 → (m.testBit j = false → (x.testBit j = true ↔ j < cnt ∧ j ≠ p ∧ bfE R N until_ own j p)) := by
    rcases ho with rfl | rfl
    · obtain ⟨x, x1, x2, x3⟩ := h9 p hp
      refine ⟨x, by rw [if_pos rfl]; exact x1, x2, fun j hj _ => ?_⟩
      rw [x3 j hj]
      unfold bfE
      rw [if_pos rfl]
      constructor
      · rintro ⟨a, b, c⟩
        refine ⟨by omega, fun e => ?_, ⟨b, Int32.le_trans (Int32.le_of_lt c) (h6 p hp)⟩, c⟩
        subst e
        exact absurd (h8 j (by omega) b) (Int32.not_lt.mpr (Int32.le_of_lt c))
      · rintro ⟨a, b, ⟨c, d⟩, e⟩
        refine ⟨?_, c, e⟩
        rcases Nat.lt_or_ge j n with q | q
        · exact q
        · exact absurd (Int32.lt_trans (h7 j q a) (h8 j a c)) (Int32.not_lt.mpr d)
    · obtain ⟨x, x1, x2, x3⟩ := h10 p hp
      refine ⟨x, by rw [if_neg (by decide)]; exact x1, x2, fun j hj _ => ?_⟩
      rw [x3 j hj]
      unfold bfE
      rw [if_neg (by decide)]
      constructor
      · rintro ⟨a, b⟩
        exact ⟨by omega, by omega, b, (h11 j p (by omega) (by omega)).mpr a⟩
      · rintro ⟨a, b, c, d⟩
        exact ⟨(h11 j p a (by omega)).mp d, c⟩
  obtain ⟨x, x1, x2, x3⟩ := hX
  unfold barred rBar
  rw [hbit, x1, hk.done, (hrb p (by omega)).1, ne_eq, msk x2]
  constructor
  · rintro (a | a)
    · exact Or.inl a
    · right; right
      intro q
      apply a
      intro j hj ht
      by_cases hm : m.testBit j = true
      · exact hm
      · have hm := (bf_iff _).mp hm
        obtain ⟨y1, y2, y3⟩ := (x3 j hj hm).mp ht
        exact absurd ⟨(hrb j y1).2.mpr hm, y2, y3⟩ (q j y1)
  · rintro (a | a | a)
    · exact Or.inl a
    · exact absurd a hu
    · right
      intro q
      apply a
      rintro j hj ⟨y1, y2, y3⟩
      have hm := (hrb j hj).2.mp y1
      have := q j (by omega) ((x3 j (by omega) hm).mpr ⟨hj, y2, y3⟩)
      rw [hm] at this
      cases this
theorem sim_suits {E R : Nat → Nat → Int32} {N : Nat → Nat} {kind ret : Int32} {n cnt : Nat} {until_ res : Int32} {p : Nat} (h : OD E R N kind ret n cnt until_) (hp : p < n) : suits E ret p res ↔ ¬ (bk (R p 11) until_ ∧ res ≠ R p 9) := by
  obtain ⟨h1, h2, -, ⟨rt, r1, r2, r3⟩, h5, -⟩ := h
  unfold suits
  rw [r1, jbit r2 (by omega)]
  have h3 := r3 p (by omega)
  by_cases hb : bk (R p 11) until_
  · have ht := h3.mpr ⟨hp, hb⟩
    rw [ht, h5 p hp hb]
    constructor
    · rintro (a | a) ⟨-, c⟩
      · cases a
      · exact c a
    · intro a
      right
      exact Decidable.not_not.mp (fun c => a ⟨hb, c⟩)
  · constructor
    · rintro - ⟨c, -⟩
      exact hb c
    · intro _
      left
      exact (bf_iff _).mp (fun c => hb (h3.mp c).2)
theorem sim_end {E R : Nat → Nat → Int32} {N : Nat → Nat} {kind ret : Int32} {n cnt : Nat} {until_ key : Int32} {m sz : Nat} (h : OD E R N kind ret n cnt until_) (hg : KeyG key m sz) : isE ret key ↔ rEnd R cnt until_ key := by
  obtain ⟨h1, h2, -, ⟨rt, r1, r2, r3⟩, -, -, h7, h8, -⟩ := h
  have hk := hg.1
  have ek : key = nI (m + 65536 * sz) := hk.1
  have hrb : ∀ j, j < 16 → ((jis key (nI j) &&& 1) = 0 ↔ m.testBit j = false) := fun j hj => by
    rw [jis_bit hk hj]
    by_cases ht : m.testBit j = true
    · rw [if_pos ht, ht]; decide
    · rw [if_neg ht]
      have ht := (bf_iff _).mp ht
      rw [ht]; decide
  unfold isE rEnd
  rw [r1]
  have e : (nI rt &&& (key ^^^ (-1)) = 0) ↔ ∀ j, j < 16 → rt.testBit j = true → m.testBit j = true := by
    rw [ek, msk r2]
    constructor
    · intro a j hj ht
      have := a j hj ht
      rw [hk.tb hj] at this
      exact this
    · intro a j hj ht
      rw [hk.tb hj]
      exact a j hj ht
  rw [e]
  constructor
  · rintro a j hj ⟨b, c⟩
    have hn : j < n := by
      rcases Nat.lt_or_ge j n with q | q
      · exact q
      · exact absurd (Int32.lt_trans (h7 j q hj) (h8 j hj c.1)) (Int32.not_lt.mpr c.2)
    have := a j (by omega) ((r3 j (by omega)).mpr ⟨hn, c⟩)
    rw [(hrb j (by omega)).mp b] at this
    cases this
  · intro a j hj ht
    obtain ⟨b, c⟩ := (r3 j hj).mp ht
    by_cases hm : m.testBit j = true
    · exact hm
    · exact absurd ⟨(hrb j hj).mpr ((bf_iff _).mp hm), c⟩ (a j (by omega))
/-- two steps that do the same to words that stand for the same -/
def SimS (Q : Nat → Int64 → Int64 → Prop) (S1 S2 : SF) (n : Nat) : Prop := ∀ (key : Int32) (m sz : Nat) (w1 w2 : Int64) (p : Nat), p < n → KeyG key m sz → Q sz w1 w2 → (S1 key w1 p = none ∧ S2 key w2 p = none) ∨ ∃ c1 c2 sz2, S1 key w1 p = some c1 ∧ S2 key w2 p = some c2 ∧ c1.2 = c2.2 ∧ c1.2.1 = nI sz2 ∧ sz2 ≤ 16 ∧ Q sz2 c1.1 c2.1
def Biu (Q : Nat → Int64 → Int64 → Prop) : Prop := ∀ (sz sz2 : Nat) (w1 w2 v1 v2 : Int64), Q sz w1 w2 → Q sz2 v1 v2 → (w1 = v1 ↔ w2 = v2)
theorem sim_stp {E R : Nat → Nat → Int32} {N : Nat → Nat} {kind ret : Int32} {n cnt : Nat} {until_ own : Int32} (h : OD E R N kind ret n cnt until_) (ho : own = 0 ∨ own = 1) : SimS (fun sz => WR kind E n sz) (stp E kind ret own) (rstp R N kind cnt until_ own) n := by
  intro key m sz w1 w2 p hp hg hw
  have hb := sim_bar h ho hg hp
  have hk := hg.1
  have esz : ix (jis key 16) = sz := by rw [jis_sz hk]; exact nI_clamp (by have := hk.2.2; omega)
  unfold stp rstp
  rw [hk.size, esz]
  by_cases hbar : barred E own key p
  · rw [if_pos hbar, if_pos (hb.mp hbar)]
    exact Or.inl ⟨rfl, rfl⟩
  · rw [if_neg hbar, if_neg (fun c => hbar (hb.mpr c))]
    have hbit : m.testBit p = false := by
      have h1 := h.1
      have h2 := h.2.1
      apply (jbit hk.2.1 (show p < 16 by omega)).mp
      rw [← hk.done]
      exact Decidable.not_not.mp (fun c => hbar (Or.inl c))
    have hsz : sz < 16 := by
      have h1 := h.1
      have h2 := h.2.1
      have := pcn16 (show p < 16 by omega) hbit
      have := pcn_le (m ||| 2 ^ p) 16
      have := hg.2
      omega
    obtain ⟨r1, sz2, r2, r3, r4⟩ := sim_chg (R := R) (show n ≤ 16 by have := h.1; have := h.2.1; omega) hp hsz h.2.2.1 hw
    rw [← congrArg Prod.snd r1]
    by_cases hs : suits E ret p (chgE E kind p w1 (nI sz)).2.2
    · rw [if_pos hs, if_neg ((sim_suits h hp).mp hs)]
      exact Or.inr ⟨_, _, sz2, rfl, rfl, r1, r2, r3, r4⟩
    · rw [if_neg hs, if_pos (Decidable.not_not.mp (fun c => hs ((sim_suits h hp).mpr c)))]
      exact Or.inl ⟨rfl, rfl⟩
theorem rstp_late {E R : Nat → Nat → Int32} {N : Nat → Nat} {kind ret : Int32} {n cnt : Nat} {until_ own key : Int32} {w : Int64} {p : Nat} (h : OD E R N kind ret n cnt until_) (hp : n ≤ p) (hp2 : p < cnt) : rstp R N kind cnt until_ own key w p = none := by
  unfold rstp
  rw [if_pos (Or.inr (Or.inl (h.2.2.2.2.2.2.1 p hp hp2)))]
/-! the walks are the same -/
def XRel (Q : Nat → Int64 → Int64 → Prop) (X1 X2 : XS) : Prop := X1.1 = X2.1 ∧ ∀ i, i < X1.1 → X2.2.1 i = X1.2.1 i ∧ X2.2.2.2 i = X1.2.2.2 i ∧ ∃ m sz, KeyG (X1.2.1 i) m sz ∧ Q sz (X1.2.2.1 i) (X2.2.2.1 i)
theorem lk_iff {K1 K2 : Nat → Int32} {W1 W2 : Nat → Int64} {key : Int32} {w1 w2 : Int64} : ∀ n : Nat, (∀ i, i < n → ((K1 i = key ∧ W1 i = w1) ↔ (K2 i = key ∧ W2 i = w2))) → lk K1 W1 key w1 n = lk K2 W2 key w2 n
  | 0, _ => rfl
  | n + 1, h => by
    simp only [lk]
    have e := h n (Nat.lt_succ_self n)
    have ih := lk_iff n (fun i hi => h i (by omega))
    by_cases c : K1 n = key ∧ W1 n = w1
    · rw [if_pos c, if_pos (e.mp c)]
    · rw [if_neg c, if_neg (fun d => c (e.mpr d)), ih]
theorem xadd_rel {Q : Nat → Int64 → Int64 → Prop} (hQ : Biu Q) {X1 X2 : XS} {f m sz : Nat} {key : Int32} {w1 w2 : Int64} (h : XRel Q X1 X2) (hf : f < X1.1) (hl : X1.1 ≤ 2000) (hg : KeyG key m sz) (hw : Q sz w1 w2) : (xadd X1 f key w1 = none ∧ xadd X2 f key w2 = none) ∨ ∃ Y1 Y2, xadd X1 f key w1 = some Y1 ∧ xadd X2 f key w2 = some Y2 ∧ XRel Q Y1 Y2 ∧ X1.1 ≤ Y1.1 ∧ Y1.1 ≤ 2000 := by
  obtain ⟨n1, K1, W1, Y1⟩ := X1
  obtain ⟨n2, K2, W2, Y2⟩ := X2
  obtain ⟨hn, h⟩ := h
  have hn : n1 = n2 := hn
  subst hn
  have hf : f < n1 := hf
  have h : ∀ i, i < n1 → K2 i = K1 i ∧ Y2 i = Y1 i ∧ ∃ m sz, KeyG (K1 i) m sz ∧ Q sz (W1 i) (W2 i) := h
  have el : lk K1 W1 key w1 n1 = lk K2 W2 key w2 n1 := lk_iff n1 (fun i hi => by
    obtain ⟨a, -, m', sz', g', q'⟩ := h i hi
    rw [a, hQ sz' sz _ _ _ _ q' hw])
  unfold xadd
  show ((if lk K1 W1 key w1 n1 = -1 then (if n1 < 2000 then some (n1 + 1, upF K1 n1 key, upF W1 n1 w1, upF Y1 n1 (Y1 f)) else none) else some (n1, K1, W1, upF Y1 (ix (lk K1 W1 key w1 n1)) (Y1 (ix (lk K1 W1 key w1 n1)) + Y1 f))) = none ∧ (if lk K2 W2 key w2 n1 = -1 then (if n1 < 2000 then some (n1 + 1, upF K2 n1 key, upF W2 n1 w2, upF Y2 n1 (Y2 f)) else none) else some (n1, K2, W2, upF Y2 (ix (lk K2 W2 key w2 n1)) (Y2 (ix (lk K2 W2 key w2 n1)) + Y2 f))) = none) ∨ ∃ Z1 Z2, (if lk K1 W1 key w1 n1 = -1 then (if n1 < 2000 then some (n1 + 1, upF K1 n1 key, upF W1 n1 w1, upF Y1 n1 (Y1 f)) else none) else some (n1, K1, W1, upF Y1 (ix (lk K1 W1 key w1 n1)) (Y1 (ix (lk K1 W1 key w1 n1)) + Y1 f))) = some Z1 ∧ (if lk K2 W2 key w2 n1 = -1 then (if n1 < 2000 then some (n1 + 1, upF K2 n1 key, upF W2 n1 w2, upF Y2 n1 (Y2 f)) else none) else some (n1, K2, W2, upF Y2 (ix (lk K2 W2 key w2 n1)) (Y2 (ix (lk K2 W2 key w2 n1)) + Y2 f))) = some Z2 ∧ XRel Q Z1 Z2 ∧ n1 ≤ Z1.1 ∧ Z1.1 ≤ 2000
  rw [← el]
  by_cases c : lk K1 W1 key w1 n1 = -1
  · rw [if_pos c, if_pos c]
    by_cases d : n1 < 2000
    · rw [if_pos d, if_pos d]
      refine Or.inr ⟨_, _, rfl, rfl, ⟨rfl, fun i hi => ?_⟩, Nat.le_succ _, d⟩
      have hi : i < n1 + 1 := hi
      show upF K2 n1 key i = upF K1 n1 key i ∧ upF Y2 n1 (Y2 f) i = upF Y1 n1 (Y1 f) i ∧ ∃ m sz, KeyG (upF K1 n1 key i) m sz ∧ Q sz (upF W1 n1 w1 i) (upF W2 n1 w2 i)
      unfold upF
      by_cases e : i = n1
      · simp only [if_pos e]
        exact ⟨trivial, (h f hf).2.1, m, sz, hg, hw⟩
      · simp only [if_neg e]
        exact h i (by omega)
    · rw [if_neg d, if_neg d]
      exact Or.inl ⟨rfl, rfl⟩
  · rw [if_neg c, if_neg c]
    refine Or.inr ⟨_, _, rfl, rfl, ⟨rfl, fun i hi => ?_⟩, Nat.le_refl _, hl⟩
    have hi : i < n1 := hi
    obtain ⟨z, z1, z2, -⟩ : ∃ z, z < n1 ∧ lk K1 W1 key w1 n1 = nI z ∧ True := by
      rcases lk_spec K1 W1 key w1 n1 with ⟨q, -⟩ | ⟨z, a, b, -⟩
      · exact absurd q c
      · exact ⟨z, a, b, trivial⟩
    have hl : n1 ≤ 2000 := hl
    have ez : ix (lk K1 W1 key w1 n1) = z := by rw [z2]; exact nI_clamp (by omega)
    show K2 i = K1 i ∧ upF Y2 (ix (lk K1 W1 key w1 n1)) (Y2 (ix (lk K1 W1 key w1 n1)) + Y2 f) i = upF Y1 (ix (lk K1 W1 key w1 n1)) (Y1 (ix (lk K1 W1 key w1 n1)) + Y1 f) i ∧ ∃ m sz, KeyG (K1 i) m sz ∧ Q sz (W1 i) (W2 i)
    rw [ez, (h z z1).2.1, (h f hf).2.1]
    refine ⟨(h i hi).1, ?_, (h i hi).2.2⟩
    unfold upF
    split
    · rfl
    · exact (h i hi).2.1
theorem bpl_rel {Q : Nat → Int64 → Int64 → Prop} (hQ : Biu Q) {S1 S2 : SF} {n : Nat} (hS : SimS Q S1 S2 n) (hK : SOK S1) {X1 X2 : XS} {f p : Nat} (h : XRel Q X1 X2) (hf : f < X1.1) (hl : X1.1 ≤ 2000) (hp : p < n) (hn : n ≤ 16) : (bpl S1 f p X1 = none ∧ bpl S2 f p X2 = none) ∨ ∃ Y1 Y2, bpl S1 f p X1 = some Y1 ∧ bpl S2 f p X2 = some Y2 ∧ XRel Q Y1 Y2 ∧ X1.1 ≤ Y1.1 ∧ Y1.1 ≤ 2000 := by
  obtain ⟨a, -, m, sz, g, q⟩ := h.2 f hf
  rcases hS _ m sz _ _ p hp g q with ⟨e1, e2⟩ | ⟨c1, c2, sz2, e1, e2, e3, e4, e5, e6⟩
  · have g1 : bpl S1 f p X1 = some X1 := by unfold bpl; rw [e1]
    have g2 : bpl S2 f p X2 = some X2 := by unfold bpl; rw [a, e2]
    rw [g1, g2]
    exact Or.inr ⟨_, _, rfl, rfl, h, Nat.le_refl _, hl⟩
  · obtain ⟨b, sz3, k1, k2⟩ := hK _ _ p c1 m sz (by omega) g e1
    have ez : sz3 = sz2 := by
      rw [e4] at k1
      exact ((nI_eq (by omega) (by have := k2.1.2.2; omega)).mp k1).symm
    subst ez
    have g1 : bpl S1 f p X1 = xadd X1 f (keyB (X1.2.1 f) p c1.2.1) c1.1 := by unfold bpl; rw [e1]
    have g2 : bpl S2 f p X2 = xadd X2 f (keyB (X1.2.1 f) p c1.2.1) c2.1 := by unfold bpl; rw [a, e2, e3]
    rw [g1, g2]
    exact xadd_rel hQ h hf hl k2 e6
theorem bpls_rel {Q : Nat → Int64 → Int64 → Prop} (hQ : Biu Q) {S1 S2 : SF} {n : Nat} (hS : SimS Q S1 S2 n) (hK : SOK S1) {f : Nat} (hn : n ≤ 16) : ∀ (q p : Nat) (X1 X2 : XS), p + q ≤ n → XRel Q X1 X2 → f < X1.1 → X1.1 ≤ 2000 → (bpls S1 f q p X1 = none ∧ bpls S2 f q p X2 = none) ∨ ∃ Y1 Y2, bpls S1 f q p X1 = some Y1 ∧ bpls S2 f q p X2 = some Y2 ∧ XRel Q Y1 Y2 ∧ X1.1 ≤ Y1.1 ∧ Y1.1 ≤ 2000
  | 0, _, X1, X2, _, h, _, hl => Or.inr ⟨X1, X2, rfl, rfl, h, Nat.le_refl _, hl⟩
  | q + 1, p, X1, X2, hp, h, hf, hl => by
    simp only [bpls]
    rcases bpl_rel hQ hS hK h hf hl (show p < n by omega) hn with ⟨e1, e2⟩ | ⟨Y1, Y2, e1, e2, hY, hle, hl2⟩
    · rw [e1, e2]
      exact Or.inl ⟨rfl, rfl⟩
    · rw [e1, e2]
      rcases bpls_rel hQ hS hK (f := f) hn q (p + 1) Y1 Y2 (by omega) hY (by omega) hl2 with r | ⟨Z1, Z2, r1, r2, r3, r4, r5⟩
      · exact Or.inl r
      · exact Or.inr ⟨Z1, Z2, r1, r2, r3, by omega, r5⟩
theorem bpls_none {S : SF} {f : Nat} : ∀ (q p : Nat) (X : XS), (∀ i, p ≤ i → i < p + q → ∀ key w, S key w i = none) → bpls S f q p X = some X
  | 0, _, _, _ => rfl
  | q + 1, p, X, h => by
    simp only [bpls, bpl]
    rw [h p (Nat.le_refl _) (by omega)]
    exact bpls_none q (p + 1) X (fun i a b => h i (by omega) (by omega))
theorem bpls_cut {S : SF} {f : Nat} : ∀ (a b p : Nat) (X : XS), (∀ i, p + a ≤ i → i < p + a + b → ∀ key w, S key w i = none) → bpls S f (a + b) p X = bpls S f a p X
  | 0, b, p, X, h => by
    rw [Nat.zero_add, bpls_none b p X (fun i x y => h i (by omega) (by omega))]
    rfl
  | a + 1, b, p, X, h => by
    rw [show a + 1 + b = (a + b) + 1 by omega]
    simp only [bpls]
    cases bpl S f p X with
    | none => rfl
    | some Y => exact bpls_cut a b (p + 1) Y (fun i x y => h i (by omega) (by omega))
theorem bfs_cut {S : SF} {n cnt : Nat} (hn : n ≤ cnt) (h : ∀ i, n ≤ i → i < cnt → ∀ key w, S key w i = none) : ∀ (q f : Nat) (X : XS), bfs S cnt q f X = bfs S n q f X
  | 0, _, _ => rfl
  | q + 1, f, X => by
    have e : bpls S f cnt 0 X = bpls S f n 0 X := by
      have := bpls_cut (S := S) (f := f) n (cnt - n) 0 X (fun i a b => h i (by omega) (by omega))
      rw [show n + (cnt - n) = cnt by omega] at this
      exact this
    simp only [bfs, e]
    cases bpls S f n 0 X with
    | none => rfl
    | some Y =>
      show (if _ then bfs S cnt q (f + 1) Y else _) = if _ then bfs S n q (f + 1) Y else _
      rw [bfs_cut hn h q (f + 1) Y]
theorem bfs_rel {Q : Nat → Int64 → Int64 → Prop} (hQ : Biu Q) {S1 S2 : SF} {n : Nat} (hS : SimS Q S1 S2 n) (hK : SOK S1) (hn : n ≤ 16) : ∀ (q f : Nat) (X1 X2 : XS), XRel Q X1 X2 → X1.1 ≤ 2000 → (bfs S1 n q f X1 = none ∧ bfs S2 n q f X2 = none) ∨ ∃ Y1 Y2, bfs S1 n q f X1 = some Y1 ∧ bfs S2 n q f X2 = some Y2 ∧ XRel Q Y1 Y2
  | 0, _, X1, X2, h, _ => Or.inr ⟨X1, X2, rfl, rfl, h⟩
  | q + 1, f, X1, X2, h, hl => by
    simp only [bfs]
    rw [← h.1]
    by_cases hf : f < X1.1
    · rw [if_pos hf, if_pos hf]
      rcases bpls_rel hQ hS hK hn n 0 X1 X2 (by omega) h hf hl with ⟨e1, e2⟩ | ⟨Y1, Y2, e1, e2, hY, hle, hl2⟩
      · rw [e1, e2]
        exact Or.inl ⟨rfl, rfl⟩
      · rw [e1, e2]
        exact bfs_rel hQ hS hK hn q (f + 1) Y1 Y2 hY hl2
    · rw [if_neg hf, if_neg hf]
      exact Or.inr ⟨X1, X2, rfl, rfl, h⟩
/-- class and reference walk alike -/
theorem run_rel {E R : Nat → Nat → Int32} {N : Nat → Nat} {kind ret : Int32} {n cnt : Nat} {until_ own : Int32} (h : OD E R N kind ret n cnt until_) (ho : own = 0 ∨ own = 1) : (xrun E kind ret own n = none ∧ brun (rstp R N kind cnt until_ own) cnt = none) ∨ ∃ X1 X2, xrun E kind ret own n = some X1 ∧ brun (rstp R N kind cnt until_ own) cnt = some X2 ∧ XRel (fun sz => WR kind E n sz) X1 X2 := by
  rw [xrun_b]
  unfold brun
  rw [bfs_cut h.1 (fun i a b key w => rstp_late h a b)]
  have h1 := h.1
  have h2 := h.2.1
  refine bfs_rel (fun sz sz2 w1 w2 v1 v2 a b => WR_iff a b) (sim_stp h ho) (stp_SOK _ _ _ _) (by omega) 2000 0 X0 X0 ⟨rfl, fun i hi => ⟨rfl, rfl, 0, 0, ⟨⟨rfl, by decide, by decide⟩, Nat.zero_le _⟩, WR_0 kind E n⟩⟩ (by decide)
/-! what is read off a walk -/
theorem wsum_esum {ret : Int32} {K : Nat → Int32} {Y Y2 : Nat → Int64} {e : Nat → Bool} : ∀ n : Nat, (∀ i, i < n → (isE ret (K i) ↔ e i = true) ∧ Y2 i = Y i) → wsum ret K Y n = esum e Y2 n
  | 0, _ => rfl
  | n + 1, h => by
    have e1 := h n (Nat.lt_succ_self n)
    simp only [wsum, esum]
    rw [wsum_esum n (fun i hi => h i (by omega)), e1.2]
    by_cases c : isE ret (K n)
    · rw [if_pos c, if_pos (e1.1.mp c)]
    · rw [if_neg c, if_neg (fun d => c (e1.1.mpr d))]
theorem sae_spec {ret : Int32} {K : Nat → Int32} {W9 : Nat → Int64} : ∀ m : Nat, m ≤ 2000 → (sae ret K W9 m).1 ≤ m ∧ (∀ i, i < m → isE ret (K i) → ∃ t, t < (sae ret K W9 m).1 ∧ (sae ret K W9 m).2.1 t = jiu (K i) 16 ∧ (sae ret K W9 m).2.2 t = W9 i) ∧ ∀ t, t < (sae ret K W9 m).1 → ∃ i, i < m ∧ isE ret (K i) ∧ (sae ret K W9 m).2.1 t = jiu (K i) 16 ∧ (sae ret K W9 m).2.2 t = W9 i
  | 0, _ => ⟨Nat.le_refl _, fun i hi => absurd hi (Nat.not_lt_zero i), fun t ht => absurd ht (Nat.not_lt_zero t)⟩
  | m + 1, hm => by
    obtain ⟨h1, h2, h3⟩ := sae_spec (ret := ret) (K := K) (W9 := W9) m (by omega)
    simp only [sae]
    by_cases c : isE ret (K m)
    · rw [if_pos c]
      generalize sae ret K W9 m = T at h1 h2 h3
      unfold tins
      by_cases d : lk T.2.1 T.2.2 (jiu (K m) 16) (W9 m) T.1 = -1 ∧ T.1 < 2000
      · rw [if_pos d]
        refine ⟨by show T.1 + 1 ≤ _; omega, fun i hi hE => ?_, fun t ht => ?_⟩
        · show ∃ t, t < T.1 + 1 ∧ upF T.2.1 T.1 (jiu (K m) 16) t = _ ∧ upF T.2.2 T.1 (W9 m) t = _
          rcases Nat.lt_succ_iff_lt_or_eq.mp hi with q | q
          · obtain ⟨t, t1, t2, t3⟩ := h2 i q hE
            refine ⟨t, by omega, ?_, ?_⟩
            · unfold upF; rw [if_neg (by omega)]; exact t2
            · unfold upF; rw [if_neg (by omega)]; exact t3
          · subst q
            refine ⟨T.1, by omega, ?_, ?_⟩
            · unfold upF; rw [if_pos rfl]
            · unfold upF; rw [if_pos rfl]
        · have ht : t < T.1 + 1 := ht
          show ∃ i, i < m + 1 ∧ isE ret (K i) ∧ upF T.2.1 T.1 (jiu (K m) 16) t = _ ∧ upF T.2.2 T.1 (W9 m) t = _
          rcases Nat.lt_succ_iff_lt_or_eq.mp ht with q | q
          · obtain ⟨i, t1, t2, t3, t4⟩ := h3 t q
            refine ⟨i, by omega, t2, ?_, ?_⟩
            · unfold upF; rw [if_neg (by omega)]; exact t3
            · unfold upF; rw [if_neg (by omega)]; exact t4
          · subst q
            refine ⟨m, by omega, c, ?_, ?_⟩
            · unfold upF; rw [if_pos rfl]
            · unfold upF; rw [if_pos rfl]
      · rw [if_neg d]
        refine ⟨by omega, fun i hi hE => ?_, fun t ht => ?_⟩
        · rcases Nat.lt_succ_iff_lt_or_eq.mp hi with q | q
          · exact h2 i q hE
          · subst q
            rcases lk_spec T.2.1 T.2.2 (jiu (K i) 16) (W9 i) T.1 with ⟨a, -⟩ | ⟨z, a, -, b⟩
            · exact absurd ⟨a, by omega⟩ d
            · exact ⟨z, a, b⟩
        · obtain ⟨i, t1, t2⟩ := h3 t ht
          exact ⟨i, by omega, t2⟩
    · rw [if_neg c]
      refine ⟨by omega, fun i hi hE => ?_, fun t ht => ?_⟩
      · rcases Nat.lt_succ_iff_lt_or_eq.mp hi with q | q
        · exact h2 i q hE
        · rw [q] at hE; exact absurd hE c
      · obtain ⟨i, t1, t2⟩ := h3 t ht
        exact ⟨i, by omega, t2⟩
theorem sae_elst {Q : Nat → Int64 → Int64 → Prop} (hQ : Biu Q) {X1 X2 : XS} (h : XRel Q X1 X2) (hl : X1.1 ≤ 2000) {ret : Int32} {e : Nat → Bool} (he : ∀ i, i < X1.1 → (isE ret (X1.2.1 i) ↔ e i = true)) : ∀ m : Nat, m ≤ X1.1 → (sae ret X1.2.1 X1.2.2.1 m).1 = elst e X2.2.1 X2.2.2.1 m
  | 0, _ => rfl
  | m + 1, hm => by
    have ih := sae_elst hQ h hl he m (by omega)
    obtain ⟨h1, h2, h3⟩ := sae_spec (ret := ret) (K := X1.2.1) (W9 := X1.2.2.1) m (by omega)
    simp only [sae, elst]
    have hem := he m (by omega)
    by_cases c : isE ret (X1.2.1 m)
    · rw [if_pos c, if_pos (hem.mp c), ← ih]
      generalize sae ret X1.2.1 X1.2.2.1 m = T at h1 h2 h3
      obtain ⟨am, -, mm, zm, gm, qm⟩ := h.2 m (by omega)
      have key : (lk T.2.1 T.2.2 (jiu (X1.2.1 m) 16) (X1.2.2.1 m) T.1 = -1) ↔ ∀ q, q < m → ¬ smE e X2.2.1 X2.2.2.1 m q := by
        constructor
        · rintro hk q hq ⟨s1, s2', s3⟩
          obtain ⟨aq, -, mq, zq, gq, qq⟩ := h.2 q (by omega)
          obtain ⟨t, t1, t2, t3⟩ := h2 q hq ((he q (by omega)).mpr s3)
          rcases lk_spec T.2.1 T.2.2 (jiu (X1.2.1 m) 16) (X1.2.2.1 m) T.1 with ⟨-, b⟩ | ⟨z, z1, z2, -⟩
          · apply b t t1
            rw [am, aq, jis_sz gm.1, jis_sz gq.1] at s1
            rw [t2, t3, gm.1.size, gq.1.size, s1]
            exact ⟨rfl, (hQ _ _ _ _ _ _ qq qm).mpr s2'⟩
          · rw [z2] at hk
            exact lk_ne (by omega) hk
        · intro hq
          rcases lk_spec T.2.1 T.2.2 (jiu (X1.2.1 m) 16) (X1.2.2.1 m) T.1 with ⟨a, -⟩ | ⟨z, z1, -, z3, z4⟩
          · exact a
          · obtain ⟨i, i1, i2, i3, i4⟩ := h3 z z1
            obtain ⟨ai, -, mi, zi, gi, qi⟩ := h.2 i (by omega)
            exfalso
            apply hq i i1
            refine ⟨?_, (hQ _ _ _ _ _ _ qi qm).mp (i4.symm.trans z4), (he i (by omega)).mp i2⟩
            rw [am, ai, jis_sz gm.1, jis_sz gi.1, ← gi.1.size, ← gm.1.size]
            exact i3.symm.trans z3
      unfold tins
      by_cases d : lk T.2.1 T.2.2 (jiu (X1.2.1 m) 16) (X1.2.2.1 m) T.1 = -1
      · rw [if_pos ⟨d, by omega⟩, if_pos (key.mp d)]
      · rw [if_neg (fun x => d x.1), if_neg (fun x => d (key.mpr x))]
        rfl
    · rw [if_neg c, if_neg (fun d => c (hem.mpr d))]
      exact ih
