/-! CLASS AND REFERENCE, the answers of one object -/
theorem run_all {E R : Nat → Nat → Int32} {N : Nat → Nat} {kind ret : Int32} {n cnt : Nat} {until_ own : Int32} (h : OD E R N kind ret n cnt until_) (ho : own = 0 ∨ own = 1) : (xrun E kind ret own n = none ∧ brun (rstp R N kind cnt until_ own) cnt = none) ∨ ∃ X1 X2, xrun E kind ret own n = some X1 ∧ brun (rstp R N kind cnt until_ own) cnt = some X2 ∧ X1.1 = X2.1 ∧ X1.1 ≤ 2000 ∧ wsum ret X1.2.1 X1.2.2.2 X1.1 = esum (eB R cnt until_ X2) X2.2.2.2 X2.1 ∧ (sae ret X1.2.1 X1.2.2.1 X1.1).1 = elst (eB R cnt until_ X2) X2.2.1 X2.2.2.1 X2.1 ∧ (wsum ret X1.2.1 X1.2.2.2 X1.1 ≤ 0 ↔ ∀ p, p < X2.1 → ¬ rEnd R cnt until_ (X2.2.1 p)) ∧ (wsum ret X1.2.1 X1.2.2.2 X1.1 = 0 ↔ ∀ p, p < X2.1 → ¬ rEnd R cnt until_ (X2.2.1 p)) := by
  rcases run_rel h ho with a | ⟨X1, X2, e1, e2, hX⟩
  · exact Or.inl a
  · refine Or.inr ⟨X1, X2, e1, e2, hX.1, ?_⟩
    have hn : n ≤ 16 := by have := h.1; have := h.2.1; omega
    have hl : X1.1 ≤ 2000 := by rw [hX.1]; exact brun_le (rstp_SOK _ _ _ _ _ _) h.2.1 e2
    have he : ∀ i, i < X1.1 → (isE ret (X1.2.1 i) ↔ rEnd R cnt until_ (X2.2.1 i)) := fun i hi => by
      obtain ⟨a, -, m, sz, g, -⟩ := hX.2 i hi
      rw [a]
      exact sim_end h g
    have heB : ∀ i, i < X1.1 → (isE ret (X1.2.1 i) ↔ eB R cnt until_ X2 i = true) := fun i hi => by
      rw [he i hi]
      show _ ↔ decide _ = true
      rw [decide_eq_true_eq]
    have hw := wsum_pos (stp_SOK E kind ret own) hn ((xrun_b E kind ret own n).symm.trans e1) (ret := ret)
    have hq : (∀ i, i < X1.1 → ¬ isE ret (X1.2.1 i)) ↔ ∀ p, p < X2.1 → ¬ rEnd R cnt until_ (X2.2.1 p) := by
      rw [← hX.1]
      exact ⟨fun a i hi b => a i hi ((he i hi).mpr b), fun a i hi b => a i hi ((he i hi).mp b)⟩
    refine ⟨hl, ?_, ?_, hw.1.trans hq, hw.2.trans hq⟩
    · rw [← hX.1]
      exact wsum_esum _ (fun i hi => ⟨heB i hi, (hX.2 i hi).2.1⟩)
    · have e := sae_elst (fun sz sz2 w1 w2 v1 v2 a b => WR_iff a b) hX hl heB X1.1 (Nat.le_refl _)
      rw [e, hX.1]
theorem ans_own {E R : Nat → Nat → Int32} {N : Nat → Nat} {kind ret : Int32} {n cnt : Nat} {until_ : Int32} (h : OD E R N kind ret n cnt until_) : ownR E kind ret n = rjd R N kind cnt until_ 1 := by
  unfold ownR rjd
  rcases run_all h (Or.inr rfl) with ⟨a, b⟩ | ⟨X1, X2, a, b, -, -, -, -, c, -⟩
  · rw [a, b]
  · rw [a, b]
    show jdg _ = if _ then 0 else 1
    unfold jdg
    by_cases q : ∀ p, p < X2.1 → ¬ rEnd R cnt until_ (X2.2.1 p)
    · rw [if_pos q, if_pos (c.mpr q)]
    · rw [if_neg q, if_neg (fun z => q (c.mp z))]
theorem ans_jP {E R : Nat → Nat → Int32} {N : Nat → Nat} {kind ret : Int32} {n cnt : Nat} {until_ : Int32} (h : OD E R N kind ret n cnt until_) : jP E kind ret n = rjd R N kind cnt until_ 0 := by
  unfold jP rjd
  rcases run_all h (Or.inl rfl) with ⟨a, b⟩ | ⟨X1, X2, a, b, -, -, -, -, c, -⟩
  · rw [a, b]
  · rw [a, b]
    show jdg _ = if _ then 0 else 1
    unfold jdg
    by_cases q : ∀ p, p < X2.1 → ¬ rEnd R cnt until_ (X2.2.1 p)
    · rw [if_pos q, if_pos (c.mpr q)]
    · rw [if_neg q, if_neg (fun z => q (c.mp z))]
theorem ans_brk {E R : Nat → Nat → Int32} {N : Nat → Nat} {kind ret : Int32} {n cnt : Nat} {until_ : Int32} (h : OD E R N kind ret n cnt until_) (ev : Int32) : brkAt E kind ret n ev = if rjd R N kind cnt until_ 0 = 0 then ev else -1 := by
  unfold brkAt rjd
  rcases run_all h (Or.inl rfl) with ⟨a, b⟩ | ⟨X1, X2, a, b, -, -, -, -, -, c⟩
  · rw [a, b]
    show (-1 : Int32) = if (-2 : Int32) = 0 then ev else -1
    rw [if_neg (by decide)]
  · rw [a, b]
    show (if _ then ev else -1) = if (if _ then (0 : Int32) else 1) = 0 then ev else -1
    by_cases q : ∀ p, p < X2.1 → ¬ rEnd R cnt until_ (X2.2.1 p)
    · rw [if_pos q, if_pos (c.mpr q), if_pos rfl]
    · rw [if_neg q, if_neg (fun z => q (c.mp z)), if_neg (by decide)]
theorem rjd_3 (R : Nat → Nat → Int32) (N : Nat → Nat) (kind : Int32) (cnt : Nat) (until_ own : Int32) : rjd R N kind cnt until_ own = 0 ∨ rjd R N kind cnt until_ own = 1 ∨ rjd R N kind cnt until_ own = -2 := by
  unfold rjd
  split
  · exact Or.inr (Or.inr rfl)
  · split
    · exact Or.inl rfl
    · exact Or.inr (Or.inl rfl)
/-- what the class has found, what the reference has: the same -/
theorem ans_fnd {E R : Nat → Nat → Int32} {N : Nat → Nat} {kind ret : Int32} {n cnt : Nat} {until_ : Int32} (h : OD E R N kind ret n cnt until_) {u m k : Nat} {I I2 : MI} {J J2 : MJ} (h1 : (xrun E kind ret 0 n = none ∧ I u 10 = -2 ∧ J u 12 = -2 ∧ I u 13 = -2 ∧ I u 11 = -2) ∨ ∃ X, xrun E kind ret 0 n = some X ∧ I u 10 = nI X.1 ∧ J u 12 = wsum ret X.2.1 X.2.2.2 X.1 ∧ I u 13 = nI (sae ret X.2.1 X.2.2.1 X.1).1 ∧ I u 11 = jdg (wsum ret X.2.1 X.2.2.2 X.1)) (h2 : rfnd R N kind cnt until_ m k I2 J2) : I u 10 = I2 (m + 18) k ∧ I u 11 = I2 (m + 19) k ∧ J u 12 = J2 (m + 20) k ∧ I u 13 = I2 (m + 21) k := by
  rcases run_all h (Or.inl rfl) with ⟨a, b⟩ | ⟨X1, X2, a, b, c0, -, c1, c2, c3, -⟩
  · rcases h1 with ⟨-, x1, x2, x3, x4⟩ | ⟨X, e, -⟩
    · rcases h2 with ⟨-, y1, y2, y3, y4⟩ | ⟨Y, e, -⟩
      · rw [x1, x2, x3, x4, y1, y2, y3, y4]
        exact ⟨rfl, rfl, rfl, rfl⟩
      · rw [b] at e; cases e
    · rw [a] at e; cases e
  · rcases h1 with ⟨e, -⟩ | ⟨X, e, x1, x2, x3, x4⟩
    · rw [a] at e; cases e
    · rw [a] at e
      cases e
      rcases h2 with ⟨e, -⟩ | ⟨Y, e, y1, y2, y3, y4, -⟩
      · rw [b] at e; cases e
      · rw [b] at e
        cases e
        rw [x1, x2, x3, x4, y1, y2, y3, y4]
        refine ⟨by rw [c0], ?_, c1, by rw [c2]⟩
        unfold jdg
        by_cases q : ∀ p, p < X2.1 → ¬ rEnd R cnt until_ (X2.2.1 p)
        · rw [if_pos q, if_pos (c3.mpr q)]
        · rw [if_neg q, if_neg (fun z => q (c3.mp z))]
/-- all objects' judgement -/
theorem lin_eq {j j2 : Nat → Int32} : ∀ (n k : Nat) (all : Int32), (all = 1 ∨ all = -2) → (∀ i, k ≤ i → i < k + n → j i = j2 i ∧ (j i = 0 ∨ j i = 1 ∨ j i = -2)) → linA j n k all = rlin j2 n k all
  | 0, _, _, _, _ => rfl
  | n + 1, k, all, ha, h => by
    obtain ⟨e, v⟩ := h k (Nat.le_refl _) (by omega)
    simp only [linA, rlin]
    rw [← e]
    have hr0 : ∀ (n k : Nat), rlin j2 n k 0 = 0 := by
      intro n
      induction n with
      | zero => intro k; rfl
      | succ n ih =>
        intro k
        simp only [rlin]
        rw [if_pos (Or.inr trivial)]
        exact ih (k + 1)
    rcases v with v | v | v
    · rw [v, if_pos rfl, if_pos (Or.inl rfl), hr0]
    · rw [v, if_neg (by decide), if_neg (by decide)]
      rw [if_neg (by
        rintro (z | z)
        · exact absurd z (by decide)
        · rcases ha with ha | ha <;> rw [ha] at z <;> exact absurd z (by decide))]
      exact lin_eq n (k + 1) all ha (fun i a b => h i (by omega) (by omega))
    · rw [v, if_neg (by decide), if_pos rfl]
      rw [if_neg (by
        rintro (z | z)
        · exact absurd z (by decide)
        · rcases ha with ha | ha <;> rw [ha] at z <;> exact absurd z (by decide))]
      exact lin_eq n (k + 1) (-2) (Or.inr rfl) (fun i a b => h i (by omega) (by omega))
/-! the class's breaks -/
def CBk (jd : Nat → Int32) (be : Nat → Nat) (bl : Nat) (v : Int32) : Prop := (v = -1 ∧ ∀ i, i < bl → jd (be i) ≠ 0) ∨ ∃ i, i < bl ∧ v = nI (be i) ∧ jd (be i) = 0 ∧ ∀ j, j < i → jd (be j) ≠ 0
theorem CBk.run {E : Nat → Nat → Int32} {kind : Int32} {bs : Nat → Int32} {cn be : Nat → Nat} {ev : Nat → Int32} {jd : Nat → Int32} {k : Nat} (hb : ∀ i, i < k → brkAt E kind (bs i) (cn i) (ev i) = if jd (be i) = 0 then nI (be i) else -1) (hbe : ∀ i, i < k → be i < 2 ^ 31) : ∀ (q i : Nat) (cur : Int32), i + q = k → CBk jd be i cur → CBk jd be k (brkF E kind bs cn ev q i cur)
  | 0, i, cur, h, hc => by
    have : i = k := by omega
    subst this
    exact hc
  | q + 1, i, cur, h, hc => by
    simp only [brkF]
    by_cases c : cur = -1
    · rw [if_pos c]
      refine CBk.run hb hbe q (i + 1) _ (by omega) ?_
      rw [hb i (by omega)]
      have hall : ∀ j, j < i → jd (be j) ≠ 0 := by
        rcases hc with ⟨-, a⟩ | ⟨j, j1, j2, -⟩
        · exact a
        · rw [c] at j2
          exact absurd j2.symm (lk_ne (hbe j (by omega)))
      by_cases d : jd (be i) = 0
      · rw [if_pos d]
        exact Or.inr ⟨i, by omega, rfl, d, hall⟩
      · rw [if_neg d]
        refine Or.inl ⟨rfl, fun j hj => ?_⟩
        rcases Nat.lt_succ_iff_lt_or_eq.mp hj with z | z
        · exact hall j z
        · rw [z]; exact d
    · rw [if_neg c]
      rcases hc with ⟨a, -⟩ | ⟨j, j1, j2⟩
      · exact absurd a c
      · exact Or.inr ⟨j, by omega, j2⟩
theorem CBk.spec {jd : Nat → Int32} {be : Nat → Nat} {k : Nat} {v : Int32} {bks : Nat → Prop} (h : CBk jd be k v) (hb : ∀ e, bks e ↔ ∃ i, i < k ∧ be i = e) (hm : ∀ i j, i < j → j < k → be i < be j) : Brk jd bks v := by
  rcases h with ⟨a, b⟩ | ⟨i, i1, i2, i3, i4⟩
  · refine Or.inl ⟨a, fun e he => ?_⟩
    obtain ⟨i, i1, i2⟩ := (hb e).mp he
    rw [← i2]
    exact b i i1
  · refine Or.inr ⟨be i, i2, (hb _).mpr ⟨i, i1, rfl⟩, i3, fun d hd hbd => ?_⟩
    obtain ⟨j, j1, j2⟩ := (hb d).mp hbd
    rw [← j2]
    apply i4 j
    rcases Nat.lt_trichotomy j i with q | q | q
    · exact q
    · subst q; omega
    · have := hm i j q j1
      omega
