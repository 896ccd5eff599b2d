/-! CLASS AND REFERENCE, the row -/
theorem hscan_congr {tg tg2 hop hop2 : Nat → Int32} : ∀ (q p : Nat) (h : Int32), (∀ z, p ≤ z → z < p + q → tg z = tg2 z ∧ (tg z = -1 ∨ hop (ix (tg z)) = hop2 (ix (tg z)))) → hscan tg hop q p h = hscan tg2 hop2 q p h
  | 0, _, _, _ => rfl
  | q + 1, p, h, e => by
    simp only [hscan]
    obtain ⟨e1, e2⟩ := e p (Nat.le_refl _) (by omega)
    have ec : (tg p ≠ -1 ∧ hop (ix (tg p)) ≠ 0) ↔ (tg2 p ≠ -1 ∧ hop2 (ix (tg2 p)) ≠ 0) := by
      rw [← e1]
      rcases e2 with q | q
      · exact ⟨fun z => absurd q z.1, fun z => absurd q z.1⟩
      · rw [q]
    have ei : (if tg p ≠ -1 ∧ hop (ix (tg p)) ≠ 0 then (1 : Int32) else 0) = if tg2 p ≠ -1 ∧ hop2 (ix (tg2 p)) ≠ 0 then 1 else 0 := by
      by_cases c : tg p ≠ -1 ∧ hop (ix (tg p)) ≠ 0
      · rw [if_pos c, if_pos (ec.mp c)]
      · rw [if_neg c, if_neg (fun d => c (ec.mpr d))]
    rw [ei, hscan_congr q (p + 1) _ (fun z a b => e z (by omega) (by omega))]
theorem hscan_iff {tg hop : Nat → Int32} : ∀ (q p : Nat) (h : Int32), hscan tg hop q p h ≠ 0 ↔ h ≠ 0 ∨ ∃ z, p ≤ z ∧ z < p + q ∧ tg z ≠ -1 ∧ hop (ix (tg z)) ≠ 0
  | 0, p, h => ⟨fun e => Or.inl e, fun e => by
      rcases e with e | ⟨z, a, b, -⟩
      · exact e
      · omega⟩
  | q + 1, p, h => by
    simp only [hscan]
    by_cases c : h = 0
    · rw [if_pos c, hscan_iff q (p + 1)]
      constructor
      · rintro (e | ⟨z, a, b, d⟩)
        · by_cases c2 : tg p ≠ -1 ∧ hop (ix (tg p)) ≠ 0
          · exact Or.inr ⟨p, Nat.le_refl _, by omega, c2⟩
          · rw [if_neg c2] at e
            exact absurd rfl e
        · exact Or.inr ⟨z, by omega, by omega, d⟩
      · rintro (e | ⟨z, a, b, d⟩)
        · exact absurd c e
        · rcases Nat.lt_or_ge p z with q9 | q9
          · exact Or.inr ⟨z, q9, by omega, d⟩
          · have : z = p := by omega
            subst this
            left
            rw [if_pos d]
            decide
    · rw [if_neg c]
      exact ⟨fun _ => Or.inl c, fun _ => c⟩
theorem hmG_keep {e : Nat → Bool} {tg : Nat → Nat → Int32} {cnt : Nat} : ∀ (m : Nat) (hop : Nat → Int32) (i : Nat), m ≤ i → hmG e tg cnt m hop i = hop i
  | 0, _, _, _ => rfl
  | m + 1, hop, i, h => by
    simp only [hmG]
    rw [hmG_keep m _ i (by omega)]
    unfold upF
    rw [if_neg (by omega)]
theorem hmG_eq {e : Nat → Bool} {tg : Nat → Nat → Int32} {cnt n : Nat} (ht : ∀ f, f < n → ∀ p, p < cnt → tg f p = -1 ∨ ∃ t, f < t ∧ tg f p = nI t ∧ t < 2 ^ 31) : ∀ (m : Nat) (hop : Nat → Int32) (f : Nat), m ≤ n → f < m → hmG e tg cnt m hop f = hscan (tg f) (hmG e tg cnt m hop) cnt 0 (if e f = true then 1 else 0)
  | 0, _, f, _, h => absurd h (Nat.not_lt_zero f)
  | m + 1, hop, f, hn, h => by
    simp only [hmG]
    rcases Nat.lt_succ_iff_lt_or_eq.mp h with q | q
    · exact hmG_eq ht m _ f (by omega) q
    · subst q
      rw [hmG_keep f _ f (Nat.le_refl _)]
      have e1 : upF hop f (hscan (tg f) hop cnt 0 (if e f = true then 1 else 0)) f = hscan (tg f) hop cnt 0 (if e f = true then 1 else 0) := by
        unfold upF
        rw [if_pos rfl]
      rw [e1]
      refine hscan_congr cnt 0 _ (fun z _ hz => ⟨rfl, ?_⟩)
      rcases ht f (by omega) z (by omega) with a | ⟨t, t1, t2, t3⟩
      · exact Or.inl a
      · right
        have e2 : ix (tg f z) = t := by rw [t2]; exact nI_clamp t3
        rw [e2, hmG_keep f _ t (by omega)]
        unfold upF
        rw [if_neg (by omega)]
theorem hop_eq {E : Nat → Nat → Int32} {kind ret own : Int32} {cnt : Nat} {X : XS} {e : Nat → Bool} {tg : Nat → Nat → Int32} {n : Nat} (he : ∀ i, i < n → (isE ret (X.2.1 i) ↔ e i = true)) (ht : ∀ f, f < n → ∀ p, p < cnt → tgX E kind ret own X f p = tg f p ∧ (tg f p = -1 ∨ ∃ t, f < t ∧ t < n ∧ tg f p = nI t ∧ t < 2 ^ 31)) : ∀ (m : Nat) (h1 h2 : Nat → Int32), m ≤ n → (∀ i, m ≤ i → i < n → h1 i = h2 i) → ∀ i, i < n → hmark E kind ret own cnt X m h1 i = hmG e tg cnt m h2 i
  | 0, _, _, _, h => fun i hi => h i (Nat.zero_le _) hi
  | m + 1, h1, h2, hm, h => by
    simp only [hmark, hmG]
    refine hop_eq he ht m _ _ (by omega) (fun i a b => ?_)
    unfold upF
    by_cases c : i = m
    · rw [if_pos c, if_pos c]
      have ei : (if isE ret (X.2.1 m) then (1 : Int32) else 0) = if e m = true then 1 else 0 := by
        have := he m (by omega)
        by_cases d : isE ret (X.2.1 m)
        · rw [if_pos d, if_pos (this.mp d)]
        · rw [if_neg d, if_neg (fun z => d (this.mpr z))]
      rw [ei]
      refine hscan_congr cnt 0 _ (fun z _ hz => ?_)
      obtain ⟨t1, t2⟩ := ht m (by omega) z (by omega)
      refine ⟨t1, ?_⟩
      rw [t1]
      rcases t2 with a | ⟨t, q1, q2, q3, q4⟩
      · exact Or.inl a
      · right
        have e2 : ix (tg m z) = t := by rw [q3]; exact nI_clamp q4
        rw [e2]
        exact h t (by omega) q2
    · rw [if_neg c, if_neg c]
      exact h i (by omega) b
/-- where a step leads -/
theorem tg_rel {E R : Nat → Nat → Int32} {N : Nat → Nat} {kind ret : Int32} {cnt : Nat} {until_ : Int32} {X1 X2 : XS} (h : OD E R N kind ret cnt cnt until_) (e1 : xrun E kind ret 0 cnt = some X1) (e2 : brun (rstp R N kind cnt until_ 0) cnt = some X2) (hX : XRel (fun sz => WR kind E cnt sz) X1 X2) {f p : Nat} (hf : f < X1.1) (hp : p < cnt) : (stp E kind ret 0 (X1.2.1 f) (X1.2.2.1 f) p = none ∧ rstp R N kind cnt until_ 0 (X2.2.1 f) (X2.2.2.1 f) p = none) ∨ ∃ c1 c2 t, stp E kind ret 0 (X1.2.1 f) (X1.2.2.1 f) p = some c1 ∧ rstp R N kind cnt until_ 0 (X2.2.1 f) (X2.2.2.1 f) p = some c2 ∧ c1.2 = c2.2 ∧ f < t ∧ t < X1.1 ∧ lk X1.2.1 X1.2.2.1 (keyB (X1.2.1 f) p c1.2.1) c1.1 X1.1 = nI t ∧ lk X2.2.1 X2.2.2.1 (keyB (X2.2.1 f) p c2.2.1) c2.1 X2.1 = nI t ∧ X2.2.1 t = keyB (X2.2.1 f) p c2.2.1 ∧ X2.2.2.1 t = c2.1 := by
  have hc := h.2.1
  obtain ⟨a, -, m, sz, g, q⟩ := hX.2 f hf
  have hbi : Biu (fun sz => WR kind E cnt sz) := fun sz sz2 w1 w2 v1 v2 a b => WR_iff a b
  have hf2 : f < X2.1 := by rw [← hX.1]; exact hf
  rcases sim_stp h (Or.inl rfl) (X1.2.1 f) m sz _ _ p hp g q with ⟨s1, s2'⟩ | ⟨c1, c2, sz2, s1, s2', s3, s4, s5, s6⟩
  · rw [a]
    exact Or.inl ⟨s1, s2'⟩
  · right
    obtain ⟨hF, hC, -⟩ := brun_fin (rstp_SOK _ _ _ _ _ _) hc e2
    have hg2 : KeyG (X2.2.1 f) m sz := by rw [a]; exact g
    obtain ⟨m2, z2, g3, -, hpk⟩ := (rstp_SOK R N kind cnt until_ 0).pk (p := p) (by omega) hg2 (by rw [a]; exact s2')
    have hh := hC f hf2 hf2 p hp c2 (by rw [a]; exact s2')
    obtain ⟨t, t1, t2, t3, t4⟩ := lk_has hh
    have hft : f < t := by
      rcases Nat.lt_or_ge f t with c | c
      · exact c
      · have := hF.2.1 t f c hf2
        rw [t3, hpk] at this
        omega
    refine ⟨c1, c2, t, s1, by rw [a]; exact s2', s3, hft, by rw [hX.1]; exact t1, ?_, t2, t3, t4⟩
    rw [← t2, ← hX.1, a, ← s3]
    refine lk_iff _ (fun i hi => ?_)
    obtain ⟨b, -, mi, szi, gi, qi⟩ := hX.2 i hi
    rw [b, hbi szi sz2 _ _ _ _ qi s6]
theorem fstC_congr {c c2 : Nat → Option (Nat × Int32)} : ∀ (n i : Nat), (∀ x, i ≤ x → x < i + n → c x = c2 x) → fstC c n i = fstC c2 n i
  | 0, _, _ => rfl
  | n + 1, i, h => by
    simp only [fstC]
    rw [h i (Nat.le_refl _) (by omega)]
    cases c2 i with
    | none => exact fstC_congr n (i + 1) (fun x a b => h x (by omega) (by omega))
    | some q => rfl
theorem fstC_some {c : Nat → Option (Nat × Int32)} : ∀ (n i x : Nat), i ≤ x → x < i + n → c x ≠ none → ∃ y t res, fstC c n i = some (y, t, res) ∧ i ≤ y ∧ y < i + n ∧ c y = some (t, res)
  | 0, i, x, h1, h2, _ => by omega
  | n + 1, i, x, h1, h2, h3 => by
    simp only [fstC]
    cases hc : c i with
    | some q => exact ⟨i, q.1, q.2, rfl, Nat.le_refl _, by omega, hc⟩
    | none =>
      have hx : i ≠ x := fun e => h3 (by rw [← e]; exact hc)
      obtain ⟨y, t, res, a1, a2, a3, a4⟩ := fstC_some n (i + 1) x (by omega) (by omega) h3
      exact ⟨y, t, res, a1, by omega, by omega, a4⟩
theorem allA_congr {e e2 : Nat → Int32} : ∀ (n k : Nat), (∀ i, k ≤ i → i < k + n → e i = e2 i) → allA e n k = allA e2 n k
  | 0, _, _ => rfl
  | n + 1, k, h => by
    simp only [allA]
    rw [h k (Nat.le_refl _) (by omega), allA_congr n (k + 1) (fun i a b => h i (by omega) (by omega))]
theorem allA_iff {e : Nat → Int32} : ∀ (n k : Nat), allA e n k ≠ 0 ↔ ∀ i, k ≤ i → i < k + n → e i ≠ 0
  | 0, k => ⟨fun _ i a b => by omega, fun _ => by show (1 : Int32) ≠ 0; decide⟩
  | n + 1, k => by
    simp only [allA]
    by_cases c : e k = 0
    · rw [if_pos c]
      exact ⟨fun h => absurd rfl h, fun h => absurd c (h k (Nat.le_refl _) (by omega))⟩
    · rw [if_neg c, allA_iff n (k + 1)]
      constructor
      · intro h i a b
        rcases Nat.lt_or_ge k i with q | q
        · exact h i q (by omega)
        · have : i = k := by omega
          rw [this]; exact c
      · exact fun h i a b => h i (by omega) (by omega)
def RowH (no np ev : Nat) (ow pl ca ba L cnt : Nat → Nat) (E R : Nat → Nat → Nat → Int32) (kd rt : Nat → Int32) (X1 X2 : Nat → XS) (der : Nat → Int64) (bf : Nat → Nat → Bool) : Prop :=
  np ≤ 48 ∧ (∀ x, x < np → ow x < no ∧ pl x < cnt (ow x) ∧ L (16 * ow x + pl x) = x) ∧
  (∀ k, k < no → ∀ i, i < cnt k → L (16 * k + i) < np ∧ ow (L (16 * k + i)) = k ∧ pl (L (16 * k + i)) = i) ∧
  (∀ x y, x < y → y < np → ca x < ca y) ∧ (∀ x, x < np → ba x = 0 ∨ ca x < ba x) ∧
  (∀ x y, x < np → y < np → (bf x y = true ↔ 0 < ba x ∧ ba x < ca y)) ∧
  (∀ x, x < np → ∀ y, y < 64 → (gb (der x) y = true ↔ y < np ∧ 0 < ba y ∧ ba y < ca x)) ∧
  ∀ k, k < no → OD (E k) (R k) (fun j => L (16 * k + j)) (kd k) (rt k) (cnt k) (cnt k) (nI ev) ∧ EV (R k) (cnt k) ev (fun i => ca (L (16 * k + i))) (fun i => ba (L (16 * k + i))) ∧ xrun (E k) (kd k) (rt k) 0 (cnt k) = some (X1 k) ∧ brun (rstp (R k) (fun j => L (16 * k + j)) (kd k) (cnt k) (nI ev) 0) (cnt k) = some (X2 k) ∧ rjd (R k) (fun j => L (16 * k + j)) (kd k) (cnt k) (nI ev) 0 = 1
/-- the class's data, the reference's -/
abbrev rowD (no np : Nat) (ow pl : Nat → Nat) (E : Nat → Nat → Nat → Int32) (kd rt : Nat → Int32) (X1 : Nat → XS) (der : Nat → Int64) (hp : Nat → Nat → Int32) : RD := (no, np, ow, pl, der, E, kd, rt, X1, hp)
abbrev rowG (no np ev : Nat) (ow pl L cnt : Nat → Nat) (R : Nat → Nat → Nat → Int32) (kd : Nat → Int32) (X2 : Nat → XS) (bf : Nat → Nat → Bool) (h2 : Nat → Nat → Int32) : GD := (no, np, ow, pl, bf, fun k => rstp (R k) (fun j => L (16 * k + j)) (kd k) (cnt k) (nI ev) 0, X2, fun k => hmG (eB (R k) (cnt k) (nI ev) (X2 k)) (gtg (rstp (R k) (fun j => L (16 * k + j)) (kd k) (cnt k) (nI ev) 0) (X2 k)) (cnt k) (X2 k).1 (h2 k), fun k => eB (R k) (cnt k) (nI ev) (X2 k))
theorem hope_eq {E R : Nat → Nat → Int32} {N : Nat → Nat} {kind ret : Int32} {cnt : Nat} {until_ : Int32} {X1 X2 : XS} (h : OD E R N kind ret cnt cnt until_) (e1 : xrun E kind ret 0 cnt = some X1) (e2 : brun (rstp R N kind cnt until_ 0) cnt = some X2) (hX : XRel (fun sz => WR kind E cnt sz) X1 X2) (h1 h2 : Nat → Int32) : ∀ i, i < X1.1 → hmark E kind ret 0 cnt X1 X1.1 h1 i = hmG (eB R cnt until_ X2) (gtg (rstp R N kind cnt until_ 0) X2) cnt X2.1 h2 i := by
  have hl : X1.1 ≤ 2000 := by rw [hX.1]; exact brun_le (rstp_SOK _ _ _ _ _ _) h.2.1 e2
  rw [← hX.1]
  refine hop_eq (n := X1.1) (fun i hi => ?_) (fun f hf p hp => ?_) X1.1 h1 h2 (Nat.le_refl _) (fun i a b => by omega)
  · obtain ⟨a, -, m, sz, g, q⟩ := hX.2 i hi
    show _ ↔ decide _ = true
    rw [decide_eq_true_eq, a]
    exact sim_end h g
  · rcases tg_rel h e1 e2 hX hf hp with ⟨s1, s2'⟩ | ⟨c1, c2, t, s1, s2', s3, t1, t2, t3, t4, -⟩
    · unfold tgX gtg
      rw [s1, s2']
      exact ⟨rfl, Or.inl rfl⟩
    · unfold tgX gtg
      rw [s1, s2']
      exact ⟨t3.trans t4.symm, Or.inr ⟨t, t1, t2, t4, by omega⟩⟩
/-- hope: an end, or a step to a hopeful one -/
theorem hope_iff {E R : Nat → Nat → Int32} {N : Nat → Nat} {kind ret : Int32} {cnt : Nat} {until_ : Int32} {X1 X2 : XS} (h : OD E R N kind ret cnt cnt until_) (e1 : xrun E kind ret 0 cnt = some X1) (e2 : brun (rstp R N kind cnt until_ 0) cnt = some X2) (hX : XRel (fun sz => WR kind E cnt sz) X1 X2) {hp h2 : Nat → Int32} (eh : hp = hmG (eB R cnt until_ X2) (gtg (rstp R N kind cnt until_ 0) X2) cnt X2.1 h2) {f : Nat} (hf : f < X2.1) : hp f ≠ 0 ↔ rEnd R cnt until_ (X2.2.1 f) ∨ ∃ p c t, p < cnt ∧ rstp R N kind cnt until_ 0 (X2.2.1 f) (X2.2.2.1 f) p = some c ∧ lk X2.2.1 X2.2.2.1 (keyB (X2.2.1 f) p c.2.1) c.1 X2.1 = nI t ∧ t < X2.1 ∧ hp t ≠ 0 := by
  have hl : X2.1 ≤ 2000 := brun_le (rstp_SOK _ _ _ _ _ _) h.2.1 e2
  have tgs : ∀ f, f < X2.1 → ∀ p, p < cnt → (rstp R N kind cnt until_ 0 (X2.2.1 f) (X2.2.2.1 f) p = none ∧ gtg (rstp R N kind cnt until_ 0) X2 f p = -1) ∨ ∃ c t, rstp R N kind cnt until_ 0 (X2.2.1 f) (X2.2.2.1 f) p = some c ∧ gtg (rstp R N kind cnt until_ 0) X2 f p = nI t ∧ lk X2.2.1 X2.2.2.1 (keyB (X2.2.1 f) p c.2.1) c.1 X2.1 = nI t ∧ f < t ∧ t < X2.1 := fun f hf p hp => by
    rcases tg_rel h e1 e2 hX (f := f) (p := p) (by rw [hX.1]; exact hf) hp with ⟨s1, s2'⟩ | ⟨c1, c2, t, s1, s2', s3, t1, t2, t3, t4, -⟩
    · exact Or.inl ⟨s2', by unfold gtg; rw [s2']⟩
    · exact Or.inr ⟨c2, t, s2', by unfold gtg; rw [s2']; exact t4, t4, t1, by rw [← hX.1]; exact t2⟩
  have e := hmG_eq (e := eB R cnt until_ X2) (tg := gtg (rstp R N kind cnt until_ 0) X2) (cnt := cnt) (n := X2.1) (fun f hf p hp => by
    rcases tgs f hf p hp with ⟨-, a⟩ | ⟨c, t, -, a, -, b, d⟩
    · exact Or.inl a
    · exact Or.inr ⟨t, b, a, by omega⟩) X2.1 h2 f (Nat.le_refl _) hf
  rw [← eh] at e
  rw [e, hscan_iff]
  constructor
  · rintro (a | ⟨p, -, hp, b, d⟩)
    · left
      apply Classical.byContradiction
      intro hn
      apply a
      rw [if_neg (fun z => hn (decide_eq_true_eq.mp z))]
    · rcases tgs f hf p (by omega) with ⟨-, q⟩ | ⟨c, t, s1, s2', s3, s4, s5⟩
      · exact absurd q b
      · right
        have e2 : ix (gtg (rstp R N kind cnt until_ 0) X2 f p) = t := by rw [s2']; exact nI_clamp (by omega)
        rw [e2] at d
        exact ⟨p, c, t, by omega, s1, s3, s5, d⟩
  · rintro (a | ⟨p, c, t, hp, s1, s2', s3, s4⟩)
    · left
      rw [if_pos (decide_eq_true_eq.mpr a)]
      decide
    · right
      rcases tgs f hf p hp with ⟨q, -⟩ | ⟨c', t', q1, q2, q3, q4, q5⟩
      · rw [s1] at q; cases q
      · rw [s1] at q1
        cases q1
        have : t' = t := (nI_eq (by omega) (by omega)).mp (q3.symm.trans s2')
        subst this
        have e2 : ix (gtg (rstp R N kind cnt until_ 0) X2 f p) = t' := by rw [q2]; exact nI_clamp (by omega)
        exact ⟨p, Nat.zero_le _, by omega, by rw [q2]; exact lk_ne (by omega), by rw [e2]; exact s4⟩
theorem hope_0 {E R : Nat → Nat → Int32} {N : Nat → Nat} {kind ret : Int32} {cnt : Nat} {until_ : Int32} {X1 X2 : XS} (h : OD E R N kind ret cnt cnt until_) (e1 : xrun E kind ret 0 cnt = some X1) (e2 : brun (rstp R N kind cnt until_ 0) cnt = some X2) (hX : XRel (fun sz => WR kind E cnt sz) X1 X2) {hp h2 : Nat → Int32} (eh : hp = hmG (eB R cnt until_ X2) (gtg (rstp R N kind cnt until_ 0) X2) cnt X2.1 h2) (hj : rjd R N kind cnt until_ 0 = 1) : hp 0 ≠ 0 := by
  have hc := h.2.1
  have hS := rstp_SOK R N kind cnt until_ 0
  obtain ⟨hF, -, h0, k0, w0⟩ := brun_fin hS hc e2
  have hl : X2.1 ≤ 2000 := hF.1.1
  have uniq : ∀ i j, i < X2.1 → j < X2.1 → X2.2.1 i = X2.2.1 j → X2.2.2.1 i = X2.2.2.1 j → i = j := fun i j hi hj a b => by
    rcases Nat.lt_trichotomy i j with q | q | q
    · exact absurd ⟨a, b⟩ (hF.2.2 i j q hj)
    · exact q
    · exact absurd ⟨a.symm, b.symm⟩ (hF.2.2 j i q hi)
  obtain ⟨key, w, hr, hend⟩ := rjd_1 hj
  have key_ : ∀ key w, Rch (rstp R N kind cnt until_ 0) cnt key w → ∀ i, i < X2.1 → X2.2.1 i = key → X2.2.2.1 i = w → hp i ≠ 0 → hp 0 ≠ 0 := fun key w hr => by
    refine Rch.ind (P := fun key w => ∀ i, i < X2.1 → X2.2.1 i = key → X2.2.2.1 i = w → hp i ≠ 0 → hp 0 ≠ 0) ?_ ?_ hr
    · intro i hi a b q
      rw [uniq 0 i h0 hi (k0.trans a.symm) (w0.trans b.symm)]
      exact q
    · intro key w p c hr ih hpc ec i hi a b q
      obtain ⟨j, j1, j2, j3⟩ := hr.has hS hc e2
      refine ih j j1 j2 j3 ?_
      rw [hope_iff h e1 e2 hX eh j1]
      right
      refine ⟨p, c, i, hpc, by rw [j2, j3]; exact ec, ?_, hi, q⟩
      obtain ⟨t, t1, t2, t3, t4⟩ := lk_has (X := X2) (key := keyB (X2.2.1 j) p c.2.1) (w := c.1) ⟨i, hi, by rw [j2]; exact a, b⟩
      rw [t2, uniq t i t1 hi (by rw [t3, a, j2]) (t4.trans b.symm)]
  obtain ⟨i, i1, i2, i3⟩ := hr.has hS hc e2
  exact key_ key w hr i i1 i2 i3 ((hope_iff h e1 e2 hX eh i1).mpr (Or.inl (by rw [i2]; exact hend)))
theorem sumN_1 {g : Nat → Nat} (h1 : ∀ i, g i ≤ 1) : ∀ n : Nat, sumN g n ≤ n ∧ (sumN g n = n → ∀ i, i < n → g i = 1)
  | 0 => ⟨Nat.le_refl _, fun _ i hi => absurd hi (Nat.not_lt_zero i)⟩
  | n + 1 => by
    simp only [sumN]
    obtain ⟨a, b⟩ := sumN_1 h1 n
    have c := h1 n
    refine ⟨by omega, fun e i hi => ?_⟩
    rcases Nat.lt_succ_iff_lt_or_eq.mp hi with q | q
    · exact b (by omega) i q
    · subst q; omega
theorem shr_bit {w : Int64} {i : Nat} (hi : i < 64) : jushr w (nI i) &&& 1 = 0 ↔ gb w i = false := by
  have e1 : ∀ j, gb 1 j = decide (j = 0) := fun j => by
    have : (1 : Int64) = lN 1 := rfl
    rw [this, gb_lN, show (1 : Nat) = 2 ^ 0 from rfl, Nat.testBit_two_pow]
    by_cases c : j = 0
    · subst c; decide
    · have : ¬ 0 = j := fun e => c e.symm
      simp [c, this]
  constructor
  · intro h
    have := congrArg (fun x => gb x 0) h
    simp only [gb_and, gb_0, gb_shr _ _ hi, e1] at this
    simpa using this
  · intro h
    refine gb_ext fun j _ => ?_
    rw [gb_and, gb_0, gb_shr _ _ hi, e1]
    by_cases c : j = 0
    · subst c
      simp [h]
    · simp [c]
theorem and_not0 {a b : Int64} : a &&& (b ^^^ (-1)) = 0 ↔ ∀ i, i < 64 → gb a i = true → gb b i = true := by
  constructor
  · intro h i hi ha
    have := congrArg (fun x => gb x i) h
    simp only [gb_and, gb_not _ hi, gb_0, ha] at this
    simpa using this
  · intro h
    refine gb_ext fun i hi => ?_
    rw [gb_and, gb_not _ hi, gb_0]
    by_cases c : gb a i = true
    · rw [c, h i hi c]; rfl
    · rw [(bf_iff _).mp c]; rfl
theorem gb_or1 {w : Int64} {x y : Nat} (hx : x < 64) (hy : y < 64) : gb (w ||| jshl 1 (nI x)) y = true ↔ gb w y = true ∨ y = x := by
  have e1 : (1 : Int64) = lN 1 := rfl
  rw [gb_or, gb_shl _ _ hx, e1, gb_lN, show (1 : Nat) = 2 ^ 0 from rfl, Nat.testBit_two_pow]
  by_cases c : y = x
  · subst c
    simp [hy]
  · by_cases d : y < x
    · simp [c, d]
    · have : ¬ 0 = y - x := by omega
      simp [c, this]
theorem least {P : Nat → Prop} : ∀ n : Nat, P n → ∃ k, P k ∧ ∀ j, j < k → ¬ P j := by
  intro n
  induction n using Nat.strongRecOn with
  | ind n ih =>
    intro h
    by_cases c : ∃ j, j < n ∧ P j
    · obtain ⟨j, j1, j2⟩ := c
      exact ih j j1 j2
    · exact ⟨n, h, fun j hj hp => c ⟨j, hj, hp⟩⟩
set_option maxHeartbeats 4000000 in
theorem row_eq {no np ev : Nat} {ow pl ca ba L cnt : Nat → Nat} {E R : Nat → Nat → Nat → Int32} {kd rt : Nat → Int32} {X1 X2 : Nat → XS} {der : Nat → Int64} {bf : Nat → Nat → Bool} (hR : RowH no np ev ow pl ca ba L cnt E R kd rt X1 X2 der bf) (h1 h2 hp : Nat → Nat → Int32) (hh : ∀ k, k < no → hp k = hmark (E k) (kd k) (rt k) 0 (cnt k) (X1 k) (X1 k).1 (h1 k)) : grow (rowG no np ev ow pl L cnt R kd X2 bf h2) 49 (fun _ => 0) (0, fun _ => 0, fun _ => 0) = some (brw (rowD no np ow pl E kd rt X1 der hp) np 0 (fun _ => 0) (0, fun _ => 0, fun _ => 0)) := by
  obtain ⟨hnp, hop, hLs, hca, hba, hbf, hder, hK⟩ := hR
  generalize ed : rowD no np ow pl E kd rt X1 der hp = d
  generalize eg : rowG no np ev ow pl L cnt R kd X2 bf h2 = gd
  have hrel : ∀ k, k < no → XRel (fun sz => WR (kd k) (E k) (cnt k) sz) (X1 k) (X2 k) := fun k hk => by
    obtain ⟨od, -, x1, x2, -⟩ := hK k hk
    rcases run_rel od (Or.inl rfl) with ⟨a, -⟩ | ⟨Y1, Y2, a, b, r⟩
    · rw [x1] at a; cases a
    · rw [x1] at a
      rw [x2] at b
      cases a
      cases b
      exact r
  have hX2k : ∀ k, k < no → ∀ i, i < (X2 k).1 → ∃ m sz, KeyG ((X2 k).2.1 i) m sz := fun k hk i hi => by
    obtain ⟨od, -, -, x2, -⟩ := hK k hk
    exact (brun_fin (rstp_SOK _ _ _ _ _ _) od.2.1 x2).1.1.2 i hi
  have hl2 : ∀ k, k < no → (X2 k).1 ≤ 2000 := fun k hk => by
    obtain ⟨od, -, -, x2, -⟩ := hK k hk
    exact brun_le (rstp_SOK _ _ _ _ _ _) od.2.1 x2
  have c16 : ∀ k, k < no → cnt k ≤ 16 := fun k hk => (hK k hk).1.2.1
  have hpe : ∀ k, k < no → ∀ i, i < (X2 k).1 → dhp d k i = ghp gd k i := fun k hk i hi => by
    obtain ⟨od, -, x1, x2, -⟩ := hK k hk
    rw [← ed, ← eg]
    show hp k i = _
    rw [hh k hk]
    exact hope_eq od x1 x2 (hrel k hk) (h1 k) (h2 k) i (by rw [(hrel k hk).1]; exact hi)
  have hgp : ∀ k, ghp gd k = hmG (eB (R k) (cnt k) (nI ev) (X2 k)) (gtg (rstp (R k) (fun j => L (16 * k + j)) (kd k) (cnt k) (nI ev) 0) (X2 k)) (cnt k) (X2 k).1 (h2 k) := fun k => by rw [← eg]
  have dn : ∀ (rc : Nat → Nat) x m sz, x < np → KeyG ((X2 (ow x)).2.1 (rc (ow x))) m sz → (gdn gd rc x = true ↔ m.testBit (pl x) = true) := fun rc x m sz hx hg => by
    obtain ⟨o1, o2, -⟩ := hop x hx
    have := c16 _ o1
    rw [← eg]
    show decide ((jis ((X2 (ow x)).2.1 (rc (ow x))) (nI (pl x)) &&& 1) = 1) = true ↔ _
    rw [decide_eq_true_eq, jis_bit hg.1 (by omega)]
    by_cases c : m.testBit (pl x) = true
    · rw [if_pos c]
      exact ⟨fun _ => c, fun _ => rfl⟩
    · rw [if_neg c]
      exact ⟨fun h => absurd h (by decide), fun h => absurd h c⟩
  -- what holds along the row
  let Q9 : Int64 → (Nat → Nat) → Prop := fun placed rc => (∀ k, k < no → rc k < (X2 k).1 ∧ ghp gd k (rc k) ≠ 0) ∧ ∀ x, x < np → (gb placed x = true ↔ gdn gd rc x = true)
  have lA : ∀ placed rc, Q9 placed rc → ∀ x, x < np → cnd d placed rc x = gcnd gd rc x := fun placed rc hq x hx => by
    obtain ⟨o1, o2, o3⟩ := hop x hx
    obtain ⟨r1, r2⟩ := hq.1 _ o1
    obtain ⟨od, evk, x1, x2, -⟩ := hK _ o1
    have hrk := hrel _ o1
    have hfr : (der x &&& (placed ^^^ (-1)) = 0) ↔ ∀ y, y < np → ¬ (y ≠ x ∧ bf y x = true ∧ gdn gd rc y = false) := by
      rw [and_not0]
      constructor
      · rintro a y hy ⟨b1, b2, b3⟩
        have b4 := (hbf y x hy hx).mp b2
        have := a y (by omega) ((hder x hx y (by omega)).mpr ⟨hy, b4⟩)
        rw [(hq.2 y hy).mp this] at b3
        cases b3
      · intro a y hy hg
        obtain ⟨y1, y2, y3⟩ := (hder x hx y hy).mp hg
        rw [hq.2 y y1]
        apply Classical.byContradiction
        intro hn
        refine a y y1 ⟨fun e => ?_, (hbf y x y1 hx).mpr ⟨y2, y3⟩, (bf_iff _).mp hn⟩
        subst e
        have := hba y hx
        omega
    have eC : cnd d placed rc x = if jushr placed (nI x) &&& 1 = 0 ∧ der x &&& (placed ^^^ (-1)) = 0 then
        (match stp (E (ow x)) (kd (ow x)) (rt (ow x)) 0 ((X1 (ow x)).2.1 (rc (ow x))) ((X1 (ow x)).2.2.1 (rc (ow x))) (pl x) with
        | none => none
        | some c => if lk (X1 (ow x)).2.1 (X1 (ow x)).2.2.1 (keyB ((X1 (ow x)).2.1 (rc (ow x))) (pl x) c.2.1) c.1 (X1 (ow x)).1 = -1 then none
          else if dhp d (ow x) (ix (lk (X1 (ow x)).2.1 (X1 (ow x)).2.2.1 (keyB ((X1 (ow x)).2.1 (rc (ow x))) (pl x) c.2.1) c.1 (X1 (ow x)).1)) = 0 then none
          else some (ix (lk (X1 (ow x)).2.1 (X1 (ow x)).2.2.1 (keyB ((X1 (ow x)).2.1 (rc (ow x))) (pl x) c.2.1) c.1 (X1 (ow x)).1), c.2.2)) else none := by
      rw [← ed]
      rfl
    have eG : gcnd gd rc x = if ∀ y, y < np → ¬ (y ≠ x ∧ bf y x = true ∧ gdn gd rc y = false) then
        (match rstp (R (ow x)) (fun j => L (16 * ow x + j)) (kd (ow x)) (cnt (ow x)) (nI ev) 0 ((X2 (ow x)).2.1 (rc (ow x))) ((X2 (ow x)).2.2.1 (rc (ow x))) (pl x) with
        | none => none
        | some c => if ghp gd (ow x) (ix (lk (X2 (ow x)).2.1 (X2 (ow x)).2.2.1 (keyB ((X2 (ow x)).2.1 (rc (ow x))) (pl x) c.2.1) c.1 (X2 (ow x)).1)) = 0 then none
          else some (ix (lk (X2 (ow x)).2.1 (X2 (ow x)).2.2.1 (keyB ((X2 (ow x)).2.1 (rc (ow x))) (pl x) c.2.1) c.1 (X2 (ow x)).1), c.2.2)) else none := by
      rw [← eg]
      unfold gcnd
      rfl
    rw [eC, eG]
    rcases tg_rel od x1 x2 hrk (f := rc (ow x)) (p := pl x) (by rw [hrk.1]; exact r1) o2 with ⟨s1, s2'⟩ | ⟨c1, c2, t, s1, s2', s3, t1, t2, t3, t4, -⟩
    · rw [s1, s2']
      simp
    · rw [s1, s2']
      obtain ⟨m, sz, hg⟩ := hX2k _ o1 _ r1
      have hbit := ((evk.step o2 (Nat.le_refl _) hg).mp s2').1
      have hnd : gb placed x = false := by
        apply (bf_iff _).mp
        intro c
        rw [hq.2 x hx, dn rc x m sz hx hg, hbit] at c
        cases c
      have hl := hl2 _ o1
      have ht : t < (X2 (ow x)).1 := by rw [← hrk.1]; exact t2
      have e1 : ix (nI t) = t := nI_clamp (by omega)
      show (if jushr placed (nI x) &&& 1 = 0 ∧ der x &&& (placed ^^^ (-1)) = 0 then (if lk (X1 (ow x)).2.1 (X1 (ow x)).2.2.1 (keyB ((X1 (ow x)).2.1 (rc (ow x))) (pl x) c1.2.1) c1.1 (X1 (ow x)).1 = -1 then none
          else if dhp d (ow x) (ix (lk (X1 (ow x)).2.1 (X1 (ow x)).2.2.1 (keyB ((X1 (ow x)).2.1 (rc (ow x))) (pl x) c1.2.1) c1.1 (X1 (ow x)).1)) = 0 then none
          else some (ix (lk (X1 (ow x)).2.1 (X1 (ow x)).2.2.1 (keyB ((X1 (ow x)).2.1 (rc (ow x))) (pl x) c1.2.1) c1.1 (X1 (ow x)).1), c1.2.2)) else none) = if ∀ y, y < np → ¬ (y ≠ x ∧ bf y x = true ∧ gdn gd rc y = false) then (if ghp gd (ow x) (ix (lk (X2 (ow x)).2.1 (X2 (ow x)).2.2.1 (keyB ((X2 (ow x)).2.1 (rc (ow x))) (pl x) c2.2.1) c2.1 (X2 (ow x)).1)) = 0 then none
          else some (ix (lk (X2 (ow x)).2.1 (X2 (ow x)).2.2.1 (keyB ((X2 (ow x)).2.1 (rc (ow x))) (pl x) c2.2.1) c2.1 (X2 (ow x)).1), c2.2.2)) else none
      rw [t3, t4, e1, if_neg (lk_ne (by omega)), hpe _ o1 t ht, s3]
      by_cases c : ∀ y, y < np → ¬ (y ≠ x ∧ bf y x = true ∧ gdn gd rc y = false)
      · rw [if_pos c, if_pos ⟨(shr_bit (by omega)).mpr hnd, hfr.mpr c⟩]
      · rw [if_neg c, if_neg (fun z => c (hfr.mp z.2))]
  have hE : ∀ placed rc, Q9 placed rc → ∀ k, k < no → endE d rc k = gend gd rc k := fun placed rc hq k hk => by
    obtain ⟨r1, r2⟩ := hq.1 k hk
    obtain ⟨od, evk, x1, x2, -⟩ := hK k hk
    obtain ⟨a, -, m, sz, g, q⟩ := (hrel k hk).2 (rc k) (by rw [(hrel k hk).1]; exact r1)
    rw [← ed, ← eg]
    show (if isE (rt k) ((X1 k).2.1 (rc k)) then (1 : Int32) else 0) = if decide (rEnd (R k) (cnt k) (nI ev) ((X2 k).2.1 (rc k))) = true then 1 else 0
    rw [a]
    have := sim_end od g
    by_cases c : isE (rt k) ((X1 k).2.1 (rc k))
    · rw [if_pos c, if_pos (decide_eq_true_eq.mpr (this.mp c))]
    · rw [if_neg c, if_neg (fun z => c (this.mpr (decide_eq_true_eq.mp z)))]
  have gE : ∀ (rc : Nat → Nat) k, gend gd rc k ≠ 0 ↔ rEnd (R k) (cnt k) (nI ev) ((X2 k).2.1 (rc k)) := fun rc k => by
    rw [← eg]
    show (if decide (rEnd (R k) (cnt k) (nI ev) ((X2 k).2.1 (rc k))) = true then (1 : Int32) else 0) ≠ 0 ↔ _
    by_cases c : rEnd (R k) (cnt k) (nI ev) ((X2 k).2.1 (rc k))
    · rw [if_pos (decide_eq_true_eq.mpr c)]
      exact ⟨fun _ => c, fun _ => by decide⟩
    · rw [if_neg (fun z => c (decide_eq_true_eq.mp z))]
      exact ⟨fun h => absurd rfl h, fun h => absurd h c⟩
  have lB : ∀ placed rc, Q9 placed rc → ¬ allA (gend gd rc) no 0 ≠ 0 → ∃ x, x < np ∧ gcnd gd rc x ≠ none := fun placed rc hq hna => by
    let P : Nat → Prop := fun x => x < np ∧ ∃ c t, rstp (R (ow x)) (fun j => L (16 * ow x + j)) (kd (ow x)) (cnt (ow x)) (nI ev) 0 ((X2 (ow x)).2.1 (rc (ow x))) ((X2 (ow x)).2.2.1 (rc (ow x))) (pl x) = some c ∧ lk (X2 (ow x)).2.1 (X2 (ow x)).2.2.1 (keyB ((X2 (ow x)).2.1 (rc (ow x))) (pl x) c.2.1) c.1 (X2 (ow x)).1 = nI t ∧ t < (X2 (ow x)).1 ∧ ghp gd (ow x) t ≠ 0
    have ex : ∀ k, k < no → ¬ rEnd (R k) (cnt k) (nI ev) ((X2 k).2.1 (rc k)) → ∃ x, P x ∧ ow x = k := fun k hk hn => by
      obtain ⟨r1, r2⟩ := hq.1 k hk
      obtain ⟨od, evk, x1, x2, -⟩ := hK k hk
      rcases (hope_iff od x1 x2 (hrel k hk) (hgp k) r1).mp r2 with a | ⟨p, c, t, a1, a2, a3, a4, a5⟩
      · exact absurd a hn
      · obtain ⟨l1, l2, l3⟩ := hLs k hk p a1
        refine ⟨L (16 * k + p), ⟨l1, ?_⟩, l2⟩
        rw [l2, l3]
        exact ⟨c, t, a2, a3, a4, a5⟩
    have hex : ∃ k, k < no ∧ ¬ rEnd (R k) (cnt k) (nI ev) ((X2 k).2.1 (rc k)) := by
      apply Classical.byContradiction
      intro hn
      apply hna
      rw [allA_iff]
      intro i _ hi
      rw [gE]
      apply Classical.byContradiction
      intro hz
      exact hn ⟨i, by omega, hz⟩
    obtain ⟨k, hk, hkn⟩ := hex
    obtain ⟨x0, hx0, -⟩ := ex k hk hkn
    obtain ⟨x, ⟨hx, c, t, s1, s2', s3, s4⟩, hmin⟩ := least x0 hx0
    refine ⟨x, hx, ?_⟩
    have hfr : ∀ y, y < np → ¬ (y ≠ x ∧ bf y x = true ∧ gdn gd rc y = false) := by
      rintro y hy ⟨b1, b2, b3⟩
      obtain ⟨b4, b5⟩ := (hbf y x hy hx).mp b2
      obtain ⟨o1, o2, o3⟩ := hop y hy
      obtain ⟨r1, r2⟩ := hq.1 _ o1
      obtain ⟨od, evk, x1, x2, -⟩ := hK _ o1
      obtain ⟨m, sz, hg⟩ := hX2k _ o1 _ r1
      have hmb : m.testBit (pl y) = false := by
        apply (bf_iff _).mp
        intro c
        rw [(dn rc y m sz hy hg).mpr c] at b3
        cases b3
      have hbl : ba y ≤ ev := by
        obtain ⟨-, -, -, -, z⟩ := evk.2.2.1 (pl y) o2
        simp only [o3] at z
        omega
      have hne : ¬ rEnd (R (ow y)) (cnt (ow y)) (nI ev) ((X2 (ow y)).2.1 (rc (ow y))) := fun he => by
        have := (evk.end_ (Nat.le_refl _) hg).mp he (pl y) o2 (by simp only [o3]; exact b4) (by simp only [o3]; exact hbl)
        rw [hmb] at this
        cases this
      obtain ⟨z, hPz, hzo⟩ := ex _ o1 hne
      have hxz : x ≤ z := by
        rcases Nat.lt_or_ge z x with q | q
        · exact absurd hPz (hmin z q)
        · exact q
      obtain ⟨hz, c', t', z1, -⟩ := hPz
      obtain ⟨w1, w2, w3⟩ := hop z hz
      rw [hzo] at z1 w2 w3
      have st := (evk.step w2 (Nat.le_refl _) hg).mp z1
      have := st.2.2.1 (pl y) o2 hmb
      simp only [o3, w3] at this
      have hcz : ca x ≤ ca z := by
        rcases Nat.lt_or_ge x z with q | q
        · exact Nat.le_of_lt (hca x z q hz)
        · have : x = z := by omega
          rw [this]
          exact Nat.le_refl _
      omega
    have hl := hl2 _ (hop x hx).1
    have e1 : ix (nI t) = t := nI_clamp (by omega)
    have eG : gcnd gd rc x = if ∀ y, y < np → ¬ (y ≠ x ∧ bf y x = true ∧ gdn gd rc y = false) then
        (match rstp (R (ow x)) (fun j => L (16 * ow x + j)) (kd (ow x)) (cnt (ow x)) (nI ev) 0 ((X2 (ow x)).2.1 (rc (ow x))) ((X2 (ow x)).2.2.1 (rc (ow x))) (pl x) with
        | none => none
        | some c => if ghp gd (ow x) (ix (lk (X2 (ow x)).2.1 (X2 (ow x)).2.2.1 (keyB ((X2 (ow x)).2.1 (rc (ow x))) (pl x) c.2.1) c.1 (X2 (ow x)).1)) = 0 then none
          else some (ix (lk (X2 (ow x)).2.1 (X2 (ow x)).2.2.1 (keyB ((X2 (ow x)).2.1 (rc (ow x))) (pl x) c.2.1) c.1 (X2 (ow x)).1), c.2.2)) else none := by
      rw [← eg]
      unfold gcnd
      rfl
    rw [eG, if_pos hfr, s1]
    show (if ghp gd (ow x) (ix (lk (X2 (ow x)).2.1 (X2 (ow x)).2.2.1 (keyB ((X2 (ow x)).2.1 (rc (ow x))) (pl x) c.2.1) c.1 (X2 (ow x)).1)) = 0 then none else some (ix (lk (X2 (ow x)).2.1 (X2 (ow x)).2.2.1 (keyB ((X2 (ow x)).2.1 (rc (ow x))) (pl x) c.2.1) c.1 (X2 (ow x)).1), c.2.2)) ≠ none
    rw [s2', e1, if_neg s4]
    intro q
    cases q
  have lC : ∀ placed rc, Q9 placed rc → ∀ x t res, x < np → gcnd gd rc x = some (t, res) → Q9 (placed ||| jshl 1 (nI x)) (upF rc (ow x) t) ∧ gdn gd rc x = false ∧ ∀ y, y < np → (gdn gd (upF rc (ow x) t) y = true ↔ gdn gd rc y = true ∨ y = x) := fun placed rc hq x t res hx hc => by
    obtain ⟨o1, o2, o3⟩ := hop x hx
    obtain ⟨r1, r2⟩ := hq.1 _ o1
    obtain ⟨od, evk, x1, x2, -⟩ := hK _ o1
    have hrk := hrel _ o1
    have hl := hl2 _ o1
    have eG : gcnd gd rc x = if ∀ y, y < np → ¬ (y ≠ x ∧ bf y x = true ∧ gdn gd rc y = false) then
        (match rstp (R (ow x)) (fun j => L (16 * ow x + j)) (kd (ow x)) (cnt (ow x)) (nI ev) 0 ((X2 (ow x)).2.1 (rc (ow x))) ((X2 (ow x)).2.2.1 (rc (ow x))) (pl x) with
        | none => none
        | some c => if ghp gd (ow x) (ix (lk (X2 (ow x)).2.1 (X2 (ow x)).2.2.1 (keyB ((X2 (ow x)).2.1 (rc (ow x))) (pl x) c.2.1) c.1 (X2 (ow x)).1)) = 0 then none
          else some (ix (lk (X2 (ow x)).2.1 (X2 (ow x)).2.2.1 (keyB ((X2 (ow x)).2.1 (rc (ow x))) (pl x) c.2.1) c.1 (X2 (ow x)).1), c.2.2)) else none := by
      rw [← eg]
      unfold gcnd
      rfl
    rw [eG] at hc
    rcases tg_rel od x1 x2 hrk (f := rc (ow x)) (p := pl x) (by rw [hrk.1]; exact r1) o2 with ⟨s1, s2'⟩ | ⟨c1, c2, t2, s1, s2', s3, t1, t2', t3, t4, t5, t6⟩
    · rw [s2'] at hc
      split at hc
      · cases hc
      · cases hc
    · rw [s2'] at hc
      have e1 : ix (nI t2) = t2 := nI_clamp (by have := hrk.1; omega)
      have ht : t2 < (X2 (ow x)).1 := by rw [← hrk.1]; exact t2'
      have hc2 : (if ∀ y, y < np → ¬ (y ≠ x ∧ bf y x = true ∧ gdn gd rc y = false) then (if ghp gd (ow x) (ix (lk (X2 (ow x)).2.1 (X2 (ow x)).2.2.1 (keyB ((X2 (ow x)).2.1 (rc (ow x))) (pl x) c2.2.1) c2.1 (X2 (ow x)).1)) = 0 then none
          else some (ix (lk (X2 (ow x)).2.1 (X2 (ow x)).2.2.1 (keyB ((X2 (ow x)).2.1 (rc (ow x))) (pl x) c2.2.1) c2.1 (X2 (ow x)).1), c2.2.2)) else none) = some (t, res) := hc
      rw [t4, e1] at hc2
      split at hc2
      · split at hc2
        · cases hc2
        · rename_i hgh
          cases hc2
          obtain ⟨m, sz, hg⟩ := hX2k _ o1 _ r1
          have hbit := ((evk.step o2 (Nat.le_refl _) hg).mp s2').1
          have hpl16 : pl x < 16 := by have := c16 _ o1; omega
          obtain ⟨sz2, hg2⟩ := step_key (rstp_SOK _ _ _ _ _ _) hpl16 hg s2'
          have hdx : gdn gd rc x = false := (bf_iff _).mp (fun c => by
            rw [dn rc x m sz hx hg, hbit] at c
            cases c)
          have hdy : ∀ y, y < np → (gdn gd (upF rc (ow x) t) y = true ↔ gdn gd rc y = true ∨ y = x) := fun y hy => by
            obtain ⟨p1, p2, p3⟩ := hop y hy
            by_cases co : ow y = ow x
            · have eu : upF rc (ow x) t (ow y) = t := by unfold upF; rw [if_pos co]
              have hgy : KeyG ((X2 (ow y)).2.1 (upF rc (ow x) t (ow y))) (m ||| 2 ^ pl x) sz2 := by rw [eu, co, t5]; exact hg2
              have hgo : KeyG ((X2 (ow y)).2.1 (rc (ow y))) m sz := by rw [co]; exact hg
              rw [dn _ y _ _ hy hgy, dn rc y m sz hy hgo, Nat.testBit_or, Nat.testBit_two_pow]
              have : pl x = pl y ↔ y = x := by
                constructor
                · intro e
                  rw [← o3, ← p3, co, e]
                · intro e
                  rw [e]
              simp only [Bool.or_eq_true, decide_eq_true_eq, this]
            · have eu : upF rc (ow x) t (ow y) = rc (ow y) := by unfold upF; rw [if_neg co]
              have : gdn gd (upF rc (ow x) t) y = gdn gd rc y := by
                rw [← eg]
                show decide ((jis ((X2 (ow y)).2.1 (upF rc (ow x) t (ow y))) (nI (pl y)) &&& 1) = 1) = decide ((jis ((X2 (ow y)).2.1 (rc (ow y))) (nI (pl y)) &&& 1) = 1)
                rw [eu]
              rw [this]
              exact ⟨fun z => Or.inl z, fun z => by
                rcases z with z | z
                · exact z
                · rw [z] at co; exact absurd rfl co⟩
          refine ⟨⟨fun k hk => ?_, fun y hy => ?_⟩, hdx, hdy⟩
          · unfold upF
            by_cases co : k = ow x
            · rw [if_pos co, co]
              exact ⟨ht, hgh⟩
            · rw [if_neg co]
              exact hq.1 k hk
          · rw [gb_or1 (by omega) (by omega), hdy y hy, hq.2 y hy]
      · cases hc2
  have main : ∀ (m q : Nat) (placed : Int64) (rc : Nat → Nat) (b : BS), Q9 placed rc → m + b.1 = np → 49 ≤ q + b.1 → sumN (fun x => if gdn gd rc x = true then 1 else 0) np = b.1 → grow gd q rc b = some (brw d m placed rc b) := by
    intro m
    induction m with
    | zero =>
      intro q placed rc b hq hm hqb hs
      obtain ⟨q', rfl⟩ : ∃ q', q = q' + 1 := ⟨q - 1, by omega⟩
      have hall := (sumN_1 (g := fun x => if gdn gd rc x = true then 1 else 0) (fun i => by show (if _ then 1 else 0) ≤ 1; split <;> omega) np).2 (by omega)
      have hends : allA (gend gd rc) (gno gd) 0 ≠ 0 := by
        have en : gno gd = no := by rw [← eg]
        rw [en, allA_iff]
        intro k _ hk
        have hk : k < no := by omega
        rw [gE]
        obtain ⟨r1, r2⟩ := hq.1 k hk
        obtain ⟨od, evk, x1, x2, -⟩ := hK k hk
        obtain ⟨m, sz, hg⟩ := hX2k k hk _ r1
        refine (evk.end_ (Nat.le_refl _) hg).mpr (fun j hj _ _ => ?_)
        obtain ⟨l1, l2, l3⟩ := hLs k hk j hj
        have := hall _ l1
        have hd : gdn gd rc (L (16 * k + j)) = true := by
          apply Classical.byContradiction
          intro hn
          simp only [if_neg hn] at this
          omega
        rw [dn rc _ m sz l1 (by rw [l2]; exact hg), l3] at hd
        exact hd
      simp only [grow]
      rw [if_pos hends]
      rfl
    | succ m ih =>
      intro q placed rc b hq hm hqb hs
      obtain ⟨q', rfl⟩ : ∃ q', q = q' + 1 := ⟨q - 1, by omega⟩
      have en : gno gd = no := by rw [← eg]
      have en2 : dno d = no := by rw [← ed]
      have ep : gnp gd = np := by rw [← eg]
      have ep2 : dnp d = np := by rw [← ed]
      have eow : gow gd = ow := by rw [← eg]
      have eow2 : dow d = ow := by rw [← ed]
      have eA : allA (endE d rc) (dno d) 0 = allA (gend gd rc) (gno gd) 0 := by
        rw [en, en2]
        exact allA_congr no 0 (fun k _ hk => hE placed rc hq k (by omega))
      have eF : fstC (cnd d placed rc) (dnp d) 0 = fstC (gcnd gd rc) (gnp gd) 0 := by
        rw [ep, ep2]
        exact fstC_congr np 0 (fun x _ hx => lA placed rc hq x (by omega))
      simp only [grow, brw]
      rw [eA, eF]
      by_cases c : allA (gend gd rc) (gno gd) 0 ≠ 0
      · rw [if_pos c, if_pos c]
      · rw [if_neg c, if_neg c]
        rw [en] at c
        obtain ⟨x, hx, hxc⟩ := lB placed rc hq c
        obtain ⟨y, t, res, f1, f2, f3, f4⟩ := fstC_some (c := gcnd gd rc) np 0 x (Nat.zero_le _) (by omega) hxc
        rw [ep, f1]
        have hy : y < np := by omega
        show (if b.1 < 48 then grow gd q' (upF rc (gow gd y) t) (b.1 + 1, upF b.2.1 b.1 (nI y), upF b.2.2 b.1 res) else none) = some (brw d m (placed ||| jshl 1 (nI y)) (upF rc (dow d y) t) (b.1 + 1, upF b.2.1 b.1 (nI y), upF b.2.2 b.1 res))
        rw [if_pos (by omega), eow, eow2]
        obtain ⟨n1, n2, n3⟩ := lC placed rc hq y t res hy f4
        refine ih q' _ _ _ n1 (by show m + (b.1 + 1) = np; omega) (by show 49 ≤ q' + (b.1 + 1); omega) ?_
        have hsu := sumN_upd (g := fun x => if gdn gd rc x = true then 1 else 0) (h := fun x => if gdn gd (upF rc (ow y) t) x = true then 1 else 0) (t := y) np hy (fun i hi hne => by
          show (if _ then 1 else 0) = if _ then 1 else 0
          have := n3 i hi
          by_cases z : gdn gd rc i = true
          · rw [if_pos z, if_pos (this.mpr (Or.inl z))]
          · rw [if_neg z, if_neg (fun w => by
              rcases this.mp w with w | w
              · exact z w
              · exact hne w)])
        simp only [n2, (n3 y hy).mpr (Or.inr rfl)] at hsu
        show sumN _ np = b.1 + 1
        simp at hsu
        omega
  refine main np 49 0 (fun _ => 0) (0, fun _ => 0, fun _ => 0) ⟨fun k hk => ?_, fun x hx => ?_⟩ (by show np + 0 = np; omega) (by show 49 ≤ 49 + 0; omega) ?_
  · obtain ⟨od, evk, x1, x2, hj⟩ := hK k hk
    obtain ⟨-, -, p0, -, -⟩ := brun_fin (rstp_SOK _ _ _ _ _ _) od.2.1 x2
    exact ⟨p0, hope_0 od x1 x2 (hrel k hk) (hgp k) hj⟩
  · obtain ⟨o1, o2, o3⟩ := hop x hx
    obtain ⟨od, evk, x1, x2, hj⟩ := hK _ o1
    obtain ⟨-, -, p0, k0, -⟩ := brun_fin (rstp_SOK _ _ _ _ _ _) od.2.1 x2
    have hg : KeyG ((X2 (ow x)).2.1 0) 0 0 := by rw [k0]; exact ⟨⟨rfl, by decide, by decide⟩, Nat.zero_le _⟩
    rw [dn (fun _ => 0) x 0 0 hx hg, gb_0, Nat.zero_testBit]
  · rw [sumN_0]
    intro x hx
    obtain ⟨o1, o2, o3⟩ := hop x hx
    obtain ⟨od, evk, x1, x2, hj⟩ := hK _ o1
    obtain ⟨-, -, p0, k0, -⟩ := brun_fin (rstp_SOK _ _ _ _ _ _) od.2.1 x2
    have hg : KeyG ((X2 (ow x)).2.1 0) 0 0 := by rw [k0]; exact ⟨⟨rfl, by decide, by decide⟩, Nat.zero_le _⟩
    have := dn (fun _ => 0) x 0 0 hx hg
    rw [Nat.zero_testBit] at this
    show (if _ then 1 else 0) = 0
    rw [if_neg (fun z => by cases this.mp z)]
