/-! CLASS AND REFERENCE, an object's operations -/
def OpR (E R : Nat → Nat → Int32) (kind : Int32) (i : Nat) : Prop := R i 4 = E i 0 ∧ R i 6 = E i 1 ∧ R i 7 = E i 2 ∧ R i 8 = E i 3 ∧ E i 4 = nI (nmF (fun j => if kind = 5 then E j 3 else E j 2) (if kind = 5 then E i 3 else E i 2) i 0) ∧ (E i 1 = 0 ∨ E i 1 = 1 ∨ E i 1 = 2 ∨ kind = 0 ∧ (E i 1 = 3 ∨ E i 1 = 4))
def WR (kind : Int32) (E : Nat → Nat → Int32) (n sz : Nat) (w1 w2 : Int64) : Prop :=
  if kind = 5 then (∀ q, q < 8 → (fld w1 (5 * q) 5 = 0 ∧ fld w2 (5 * q) 5 = 0) ∨ ∃ nm, nm < n ∧ fld w1 (5 * q) 5 = 16 + nm ∧ fld w2 (5 * q) 5 = nm + 1) ∧ ∀ i, 40 ≤ i → gb w1 i = false ∧ gb w2 i = false
  else w1 = w2 ∧ (kind = 0 → w1.toInt32.toInt64 = w1) ∧ (kind ≠ 0 → kind ≠ 3 → SeqW (fun j => E j 2) n kind sz w1)
theorem map_ext {w v : Int64} (h : ∀ q, q < 8 → fld w (5 * q) 5 = fld v (5 * q) 5) (h2 : ∀ i, 40 ≤ i → gb w i = false) (h3 : ∀ i, 40 ≤ i → gb v i = false) : w = v := gb_ext fun i hi => by
  rcases Nat.lt_or_ge i 40 with h9 | h9
  · rw [gb_fld w (s := 5 * (i / 5)) (k := 5) (by omega) (by omega), gb_fld v (s := 5 * (i / 5)) (k := 5) (by omega) (by omega), h (i / 5) (by omega)]
  · rw [h2 i h9, h3 i h9]
theorem WR_iff {kind : Int32} {E : Nat → Nat → Int32} {n sz sz2 : Nat} {w1 w2 v1 v2 : Int64} (h : WR kind E n sz w1 w2) (h2 : WR kind E n sz2 v1 v2) : w1 = v1 ↔ w2 = v2 := by
  unfold WR at h h2
  split at h
  · rename_i h5
    rw [if_pos h5] at h2
    constructor
    · intro e
      subst e
      refine map_ext (fun q hq => ?_) (fun i hi => (h.2 i hi).2) (fun i hi => (h2.2 i hi).2)
      rcases h.1 q hq with ⟨a, b⟩ | ⟨m, _, a, b⟩
      · rcases h2.1 q hq with ⟨c, d⟩ | ⟨m2, _, c, d⟩ <;> omega
      · rcases h2.1 q hq with ⟨c, d⟩ | ⟨m2, _, c, d⟩ <;> omega
    · intro e
      subst e
      refine map_ext (fun q hq => ?_) (fun i hi => (h.2 i hi).1) (fun i hi => (h2.2 i hi).1)
      rcases h.1 q hq with ⟨a, b⟩ | ⟨m, _, a, b⟩
      · rcases h2.1 q hq with ⟨c, d⟩ | ⟨m2, _, c, d⟩ <;> omega
      · rcases h2.1 q hq with ⟨c, d⟩ | ⟨m2, _, c, d⟩ <;> omega
  · rename_i h5
    rw [if_neg h5] at h2
    rw [h.1, h2.1]
theorem WR_0 (kind : Int32) (E : Nat → Nat → Int32) (n : Nat) : WR kind E n 0 0 0 := by
  unfold WR
  split
  · refine ⟨fun q hq => Or.inl ?_, fun i _ => ⟨gb_0 i, gb_0 i⟩⟩
    have e : fld 0 (5 * q) 5 = 0 := fld_eq (by decide) (fun j _ => by rw [gb_0]; simp)
    exact ⟨e, e⟩
  · exact ⟨rfl, fun _ => by decide, fun _ _ => ⟨fun i _ => gb_0 i, fun i hi => absurd hi (Nat.not_lt_zero i), fun _ i j _ hj => absurd hj (Nat.not_lt_zero j)⟩⟩
/-- registers -/
theorem sim_reg {code a b : Int32} {w : Int64} (hc : code = 0 ∨ code = 1 ∨ code = 2 ∨ code = 3 ∨ code = 4) (hw : w.toInt32.toInt64 = w) : chReg code a b w = rReg code a b w ∧ (chReg code a b w).1.toInt32.toInt64 = (chReg code a b w).1 := by
  rcases hc with rfl | rfl | rfl | rfl | rfl
  · exact ⟨by unfold chReg rReg; simp [hw], by unfold chReg; simpa using hw⟩
  · exact ⟨by unfold chReg rReg; simp, by unfold chReg; simp⟩
  · exact ⟨by unfold chReg rReg; simp, by unfold chReg; simp⟩
  · unfold chReg rReg
    by_cases h : w.toInt32 = a
    · simp [h]
    · simp [h, hw]
  · exact ⟨by unfold chReg rReg; simp, by unfold chReg; simp⟩
/-- maps -/
theorem or16 : ∀ nm, nm < 16 → 16 ||| nm = 16 + nm := by decide
theorem and16 : ∀ nm, nm < 16 → nI (16 + nm) &&& 16 ≠ 0 ∧ nI (16 + nm) &&& 15 = nI nm := by decide
theorem gb_set40 {w : Int64} {p v i : Nat} (hp : p < 8) (hv : v < 32) (hi : 40 ≤ i) : gb (w ||| jshl (nI v).toInt64 (nI (5 * p))) i = gb w i := by
  rw [gb_or, gb_shl _ _ (by omega), gb_nI _ (by omega)]
  have h3 : v.testBit (i - 5 * p) = false := Nat.testBit_lt_two_pow (Nat.lt_of_lt_of_le (show v < 2 ^ 5 from hv) (Nat.pow_le_pow_right (by decide) (by omega)))
  simp [h3]
theorem sim_map {code a b : Int32} {n nm : Nat} {bv bv2 : Nat → Int32} {E : Nat → Nat → Int32} {sz : Nat} {w1 w2 : Int64} (hn : n ≤ 16) (hnm : nm < n) (hb : ∀ i, i < n → bv i = bv2 i) (h : WR 5 E n sz w1 w2) : (chMap code a b (nI nm) bv w1).2 = (rMap code a b (nI nm) bv2 w2).2 ∧ WR 5 E n sz (chMap code a b (nI nm) bv w1).1 (rMap code a b (nI nm) bv2 w2).1 := by
  obtain ⟨p, hp, ep⟩ := a7 a
  unfold WR at h
  rw [if_pos rfl] at h
  obtain ⟨h1, h2⟩ := h
  constructor
  · unfold chMap rMap
    show (if mapH a w1 &&& 16 = 0 then NOTH else _) = if rmH a w2 = 0 then NOTH else _
    rw [mapH_fld hp ep, rmH_fld hp ep]
    rcases h1 p hp with ⟨x1, x2⟩ | ⟨m, m1, x1, x2⟩
    · rw [x1, x2, if_pos (by decide), if_pos (by decide)]
    · obtain ⟨y1, y2⟩ := and16 m (by omega)
      rw [x1, x2, if_neg y1, y2, if_neg (nI_ne0 (by omega) (by omega)), nI_pred]
      have e : ix (nI m) = m := nI_clamp (by omega)
      rw [e, hb m m1]
  · unfold WR
    rw [if_pos rfl]
    unfold chMap rMap
    simp only []
    rw [ep, m5, nI_1, show (16 : Int32) = nI 16 from rfl, nx_or, or16 nm (by omega)]
    have clr : ∀ q, q < 8 → (fld (w1 &&& (jshl 31 (nI (5 * p)) ^^^ (-1))) (5 * q) 5 = if q = p then 0 else fld w1 (5 * q) 5) ∧ (fld (w2 &&& (jshl 31 (nI (5 * p)) ^^^ (-1))) (5 * q) 5 = if q = p then 0 else fld w2 (5 * q) 5) := fun q hq => ⟨fld_clr hp hq, fld_clr hp hq⟩
    have c40 : ∀ (w : Int64) i, 40 ≤ i → gb w i = false → gb (w &&& (jshl 31 (nI (5 * p)) ^^^ (-1))) i = false := fun w i _ e => by rw [gb_and, e]; rfl
    by_cases hc : code = 0 ∧ b ≠ NOTH
    · have hc1 : ¬ code = 1 := fun e => by rw [hc.1] at e; exact absurd e (by decide)
      rw [if_pos hc, if_pos hc, if_neg hc1, if_neg hc1]
      refine ⟨fun q hq => ?_, fun i hi => ⟨by rw [gb_set40 hp (by omega) hi]; exact c40 _ i hi (h2 i hi).1, by rw [gb_set40 hp (by omega) hi]; exact c40 _ i hi (h2 i hi).2⟩⟩
      rw [fld_set hp hq (by omega), fld_set hp hq (by omega), (clr q hq).1, (clr q hq).2]
      by_cases hqp : q = p
      · simp only [if_pos hqp, Nat.zero_or]
        exact Or.inr ⟨nm, hnm, rfl, rfl⟩
      · simp only [if_neg hqp]
        exact h1 q hq
    · rw [if_neg hc, if_neg hc]
      by_cases hc1 : code = 1
      · rw [if_pos hc1, if_pos hc1]
        exact ⟨h1, h2⟩
      · rw [if_neg hc1, if_neg hc1]
        refine ⟨fun q hq => ?_, fun i hi => ⟨c40 _ i hi (h2 i hi).1, c40 _ i hi (h2 i hi).2⟩⟩
        rw [(clr q hq).1, (clr q hq).2]
        by_cases hqp : q = p
        · simp only [if_pos hqp]
          exact Or.inl ⟨trivial, trivial⟩
        · simp only [if_neg hqp]
          exact h1 q hq
/-- queues, stacks, heaps -/
theorem rplc_congr {av av2 : Nat → Int32} {a : Int32} {w : Int64} : ∀ p : Nat, p ≤ 16 → (∀ i, i < p → av (nib w i) = av2 (nib w i)) → rplc av a w p = rplc av2 a w p
  | 0, _, _ => rfl
  | p + 1, hp, h => by
    have ei : ix (thg w (nI p)) = nib w p := by
      rw [thg_fld (by omega)]
      have h : nib w p < 2 ^ 31 := Nat.lt_trans (nib_lt w p) (by decide)
      exact nI_clamp h
    simp only [rplc]
    rw [ei, h p (Nat.lt_succ_self p), rplc_congr p (by omega) (fun i hi => h i (by omega))]
theorem SeqW_ins {av : Nat → Int32} {n sz q p : Nat} {kind : Int32} {w : Int64} (h : SeqW av n kind sz w) (hz : sz < 16) (hq : q ≤ sz) (hp : p < n) (hn : n ≤ 16) (hs : kind = 4 → (∀ i, i < q → av (nib w i) ≤ av p) ∧ ∀ i, q ≤ i → i < sz → av p ≤ av (nib w i)) : SeqW av n kind (sz + 1) (insW w (nI q) (nI (nmF av (av p) p 0))) := by
  obtain ⟨c1, c2, c3⟩ := nm_canon (av := av) p
  generalize nmF av (av p) p 0 = nm at c1 c2 c3
  have hm : nm < 16 := by omega
  obtain ⟨s1, s2', s3⟩ := h
  refine ⟨ins_top hq hz hm s1, fun i hi => ?_, fun hk i j hij hj => ?_⟩
  · rw [nib_ins (by omega) hm (by omega)]
    split
    · exact s2' i (by omega)
    · split
      · exact ⟨by omega, c1⟩
      · exact s2' (i - 1) (by omega)
  · obtain ⟨t1, t2⟩ := hs hk
    rw [nib_ins (by omega) hm (by omega), nib_ins (by omega) hm (by omega)]
    by_cases a1 : j < q
    · rw [if_pos (by omega), if_pos a1]
      exact s3 hk i j hij (by omega)
    · rw [if_neg a1]
      by_cases a2 : j = q
      · rw [if_pos (by omega), if_pos a2, c2]
        exact t1 i (by omega)
      · rw [if_neg a2]
        by_cases b1 : i < q
        · rw [if_pos b1]
          rcases Nat.lt_or_ge i (j - 1) with h9 | h9
          · exact s3 hk i (j - 1) h9 (by omega)
          · omega
        · rw [if_neg b1]
          by_cases b2 : i = q
          · rw [if_pos b2, c2]
            exact t2 (j - 1) (by omega) (by omega)
          · rw [if_neg b2]
            exact s3 hk (i - 1) (j - 1) (by omega) (by omega)
theorem SeqW_rem {av : Nat → Int32} {n sz q : Nat} {kind : Int32} {w : Int64} (h : SeqW av n kind sz w) (hz : sz ≤ 16) (hq : q < sz) : SeqW av n kind (sz - 1) (remW w (nI q)) := by
  obtain ⟨s1, s2', s3⟩ := h
  refine ⟨rem_top hq hz s1, fun i hi => ?_, fun hk i j hij hj => ?_⟩
  · rw [nib_rem (by omega) (by omega)]
    split
    · exact s2' i (by omega)
    · exact s2' (i + 1) (by omega)
  · rw [nib_rem (by omega) (by omega), nib_rem (by omega) (by omega)]
    by_cases a : j < q
    · rw [if_pos (by omega), if_pos a]
      exact s3 hk i j hij (by omega)
    · rw [if_neg a]
      by_cases b : i < q
      · rw [if_pos b]
        exact s3 hk i (j + 1) (by omega) (by omega)
      · rw [if_neg b]
        exact s3 hk (i + 1) (j + 1) (by omega) (by omega)
theorem sim_seq {av av2 : Nat → Int32} {n sz p : Nat} {kind code : Int32} {w : Int64} (hn : n ≤ 16) (hp : p < n) (hz : sz < 16) (ha : ∀ i, i < n → av i = av2 i) (hc : code = 0 ∨ code = 1 ∨ code = 2) (h : SeqW av n kind sz w) : chSeq kind code (av p) (nI (nmF av (av p) p 0)) av w (nI sz) = rSeq kind code (av p) (nI (nmF av (av p) p 0)) av2 w sz ∧ ∃ sz2, (chSeq kind code (av p) (nI (nmF av (av p) p 0)) av w (nI sz)).2.1 = nI sz2 ∧ sz2 ≤ 16 ∧ SeqW av n kind sz2 (chSeq kind code (av p) (nI (nmF av (av p) p 0)) av w (nI sz)).1 := by
  have hnm := nm_canon (av := av) p
  have hm : nmF av (av p) p 0 < 16 := by omega
  rcases hc with rfl | rfl | rfl
  · have er : rplc av2 (av p) w sz = rplc av (av p) w sz := rplc_congr sz (by omega) (fun i hi => (ha _ (h.2.1 i hi).1).symm)
    unfold chSeq rSeq
    rw [if_pos rfl, if_neg (show ¬ (0 : Int32) = 2 by decide), if_pos rfl, er]
    by_cases hk : kind = 4
    · subst hk
      rw [if_pos rfl, if_pos rfl]
      obtain ⟨q, q1, q2, q3, q4, q5⟩ := heap_place (p := p) h hz
      have h0 : (0 : Int32) = nI 0 := rfl
      rw [q1, ins_rins (rplc_le _ _ _ _) hz hm h.1, q3]
      exact ⟨rfl, sz + 1, nI_1 sz, by omega, SeqW_ins h hz q2 hp hn (fun _ => ⟨q4, q5⟩)⟩
    · rw [if_neg hk, if_neg hk, ins_rins (Nat.le_refl _) hz hm h.1]
      exact ⟨rfl, sz + 1, nI_1 sz, by omega, SeqW_ins h hz (Nat.le_refl _) hp hn (fun e => absurd e hk)⟩
  · unfold chSeq rSeq
    rw [if_neg (show ¬ (1 : Int32) = 0 by decide), if_pos rfl, if_neg (show ¬ (1 : Int32) = 2 by decide), if_neg (show ¬ (1 : Int32) = 0 by decide)]
    by_cases h0 : sz = 0
    · subst h0
      rw [if_neg (by decide), if_pos rfl]
      exact ⟨rfl, 0, rfl, by omega, h⟩
    · have hpos : (0 : Int32) < nI sz := nI_lt (a := 0) (by omega) (by omega)
      obtain ⟨s, rfl⟩ : ∃ s, sz = s + 1 := ⟨sz - 1, by omega⟩
      rw [if_pos hpos, if_neg h0, nI_pred]
      by_cases hk : kind = 2
      · rw [if_pos hk, if_pos hk]
        have e1 : ix (nI (nib w s)) = nib w s := nI_clamp (Nat.lt_trans (nib_lt w s) (by decide))
        rw [remN_fld (by omega), thg_fld (by omega), m4, rem_last (by omega) h.1]
        have e2 : av (ix (nI (fld w (4 * s) 4))) = av2 (ix (nI (fld w (4 * s) 4))) := by
          have e1 : ix (nI (fld w (4 * s) 4)) = nib w s := e1
          rw [e1]
          exact ha _ (h.2.1 s (by omega)).1
        rw [e2]
        exact ⟨rfl, s, rfl, by omega, SeqW_rem h (by omega) (by omega)⟩
      · rw [if_neg hk, if_neg hk]
        have h00 : (0 : Int32) = nI 0 := rfl
        have e1 : ix (nI (nib w 0)) = nib w 0 := nI_clamp (Nat.lt_trans (nib_lt w 0) (by decide))
        rw [h00, remN_fld (by omega), thg_fld (by omega), rem_0]
        have e2 : av (ix (nI (fld w (4 * 0) 4))) = av2 (ix (nI (fld w (4 * 0) 4))) := by
          have e1 : ix (nI (fld w (4 * 0) 4)) = nib w 0 := e1
          rw [e1]
          exact ha _ (h.2.1 0 (by omega)).1
        rw [e2]
        exact ⟨rfl, s, rfl, by omega, SeqW_rem h (by omega) (by omega)⟩
  · unfold chSeq rSeq
    rw [if_neg (by decide), if_neg (by decide), if_pos rfl]
    exact ⟨rfl, sz, rfl, by omega, h⟩
/-- one operation, of any kind -/
theorem sim_chg {E R : Nat → Nat → Int32} {kind : Int32} {n sz p : Nat} {w1 w2 : Int64} (hn : n ≤ 16) (hp : p < n) (hz : sz < 16) (hO : ∀ i, i < n → OpR E R kind i) (h : WR kind E n sz w1 w2) : (chgE E kind p w1 (nI sz)).2 = (rchg R kind p w2 sz).2 ∧ ∃ sz2, (chgE E kind p w1 (nI sz)).2.1 = nI sz2 ∧ sz2 ≤ 16 ∧ WR kind E n sz2 (chgE E kind p w1 (nI sz)).1 (rchg R kind p w2 sz).1 := by
  obtain ⟨o4, o6, o7, o8, onm, oc⟩ := hO p hp
  have e7 : nmF (fun j => R j 7) (R p 7) p 0 = nmF (fun j => E j 2) (E p 2) p 0 := by
    rw [o7]
    exact nmF_congr p 0 (fun j _ hj => (hO j (by omega)).2.2.1)
  have e8 : nmF (fun j => R j 8) (R p 8) p 0 = nmF (fun j => E j 3) (E p 3) p 0 := by
    rw [o8]
    exact nmF_congr p 0 (fun j _ hj => (hO j (by omega)).2.2.2.1)
  unfold chgE chg rchg
  rw [e7, e8, o6, o7, o8, onm]
  by_cases k0 : kind = 0
  · subst k0
    unfold WR at h
    rw [if_neg (by decide)] at h
    obtain ⟨rfl, h2, -⟩ := h
    rw [if_pos rfl, if_pos rfl]
    have hc : E p 1 = 0 ∨ E p 1 = 1 ∨ E p 1 = 2 ∨ E p 1 = 3 ∨ E p 1 = 4 := by
      rcases oc with a | a | a | ⟨-, a | a⟩
      · exact Or.inl a
      · exact Or.inr (Or.inl a)
      · exact Or.inr (Or.inr (Or.inl a))
      · exact Or.inr (Or.inr (Or.inr (Or.inl a)))
      · exact Or.inr (Or.inr (Or.inr (Or.inr a)))
    obtain ⟨r1, r2⟩ := sim_reg (a := E p 2) (b := E p 3) hc (h2 rfl)
    rw [← r1]
    refine ⟨rfl, sz, rfl, by omega, ?_⟩
    unfold WR
    rw [if_neg (by decide)]
    exact ⟨rfl, fun _ => r2, fun h => absurd rfl h⟩
  · rw [if_neg k0, if_neg k0]
    by_cases k3 : kind = 3
    · subst k3
      unfold WR at h
      rw [if_neg (by decide)] at h
      obtain ⟨rfl, -, -⟩ := h
      rw [if_pos rfl, if_pos rfl]
      rw [if_neg (show ¬ (3 : Int32) = 5 by decide)]
      have ef : (fun j => if (3 : Int32) = 5 then E j 3 else E j 2) = fun j => E j 2 := funext fun j => if_neg (show ¬ (3 : Int32) = 5 by decide)
      rw [ef]
      refine ⟨rfl, sz, rfl, by omega, ?_⟩
      unfold WR
      rw [if_neg (by decide)]
      exact ⟨rfl, fun h => absurd h (by decide), fun _ h => absurd rfl h⟩
    · rw [if_neg k3, if_neg k3]
      by_cases k5 : kind = 5
      · subst k5
        rw [if_pos rfl, if_pos rfl]
        simp only [if_true]
        have hnm := (nm_canon (av := fun j => E j 3) p).2.2
        obtain ⟨r1, r2⟩ := sim_map (code := E p 1) (a := E p 2) (b := E p 3) (nm := nmF (fun j => E j 3) (E p 3) p 0) (bv := fun j => E j 3) (bv2 := fun j => R j 8) hn (Nat.lt_of_le_of_lt hnm hp) (fun i hi => (hO i hi).2.2.2.1.symm) h
        refine ⟨?_, sz, rfl, by omega, r2⟩
        rw [r1]
      · rw [if_neg k5, if_neg k5]
        simp only [if_neg k5]
        unfold WR at h
        rw [if_neg k5] at h
        obtain ⟨rfl, -, h3⟩ := h
        have hc : E p 1 = 0 ∨ E p 1 = 1 ∨ E p 1 = 2 := by
          rcases oc with a | a | a | ⟨a, -⟩
          · exact Or.inl a
          · exact Or.inr (Or.inl a)
          · exact Or.inr (Or.inr a)
          · exact absurd a k0
        obtain ⟨r1, sz2, r2, r3, r4⟩ := sim_seq (av := fun j => E j 2) (av2 := fun j => R j 7) hn hp hz (fun i hi => (hO i hi).2.2.1.symm) hc (h3 k0 k3)
        have r1 : chSeq kind (E p 1) (E p 2) (nI (nmF (fun j => E j 2) (E p 2) p 0)) (fun j => E j 2) w1 (nI sz) = rSeq kind (E p 1) (E p 2) (nI (nmF (fun j => E j 2) (E p 2) p 0)) (fun j => R j 7) w1 sz := r1
        refine ⟨by rw [r1], sz2, r2, r3, ?_⟩
        unfold WR
        rw [if_neg k5]
        exact ⟨by rw [r1], fun h => absurd h k0, fun _ _ => r4⟩
