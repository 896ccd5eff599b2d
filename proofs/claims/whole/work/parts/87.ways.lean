/-! THE WAYS: never so many that a long overflows -/
abbrev yv (Y : Nat → Int64) (i : Nat) : Nat := (Y i).toBitVec.toNat
def sumN (g : Nat → Nat) : Nat → Nat
  | 0 => 0
  | n + 1 => sumN g n + g n
theorem sumN_congr {g h : Nat → Nat} : ∀ n : Nat, (∀ i, i < n → h i = g i) → sumN h n = sumN g n
  | 0, _ => rfl
  | n + 1, e => by
    simp only [sumN]
    rw [sumN_congr n (fun i hi => e i (by omega)), e n (Nat.lt_succ_self n)]
theorem sumN_le {g h : Nat → Nat} : ∀ n : Nat, (∀ i, i < n → h i ≤ g i) → sumN h n ≤ sumN g n
  | 0, _ => Nat.le_refl _
  | n + 1, e => by
    simp only [sumN]
    have := sumN_le n (fun i hi => e i (by omega))
    have := e n (Nat.lt_succ_self n)
    omega
theorem sumN_ge {g : Nat → Nat} {t : Nat} : ∀ n : Nat, t < n → g t ≤ sumN g n
  | 0, h => absurd h (Nat.not_lt_zero t)
  | n + 1, h => by
    simp only [sumN]
    rcases Nat.lt_succ_iff_lt_or_eq.mp h with q | q
    · have := sumN_ge (g := g) n q
      omega
    · subst q
      omega
theorem sumN_upd {g h : Nat → Nat} {t : Nat} : ∀ n : Nat, t < n → (∀ i, i < n → i ≠ t → h i = g i) → sumN h n + g t = sumN g n + h t
  | 0, ht, _ => absurd ht (Nat.not_lt_zero t)
  | n + 1, ht, e => by
    simp only [sumN]
    rcases Nat.lt_succ_iff_lt_or_eq.mp ht with q | q
    · have := sumN_upd n q (fun i hi hn => e i (by omega) hn)
      have := e n (Nat.lt_succ_self n) (by omega)
      omega
    · subst q
      have := sumN_congr (g := g) (h := h) t (fun i hi => e i (by omega) (by omega))
      omega
/-- all ways from a possibility on, where r operations are left -/
def cR : Nat → Nat
  | 0 => 1
  | r + 1 => 1 + (r + 1) * cR r
theorem cR16 : cR 16 < 2 ^ 63 := by decide
theorem cR_pos : ∀ r, 1 ≤ cR r
  | 0 => Nat.le_refl _
  | r + 1 => by simp only [cR]; omega
def un (m : Nat) : Nat → Nat → Nat
  | 0, _ => 0
  | q + 1, p => (if m.testBit p = true then 0 else 1) + un m q (p + 1)
theorem un_pcn (m : Nat) : ∀ q p : Nat, un m q p + pcn m (p + q) = q + pcn m p
  | 0, p => by simp [un]
  | q + 1, p => by
    have h := un_pcn m q (p + 1)
    simp only [un]
    rw [show p + (q + 1) = p + 1 + q by omega]
    simp only [pcn] at h
    split
    · rename_i c
      rw [if_pos c] at h
      omega
    · rename_i c
      rw [if_neg c] at h
      omega
theorem pcn_add (m a : Nat) : ∀ b : Nat, pcn m (a + b) ≤ pcn m a + b
  | 0 => Nat.le_refl _
  | b + 1 => by
    have := pcn_add m a b
    show pcn m (a + b) + _ ≤ _
    split <;> omega
theorem un_le {m n : Nat} (hn : n ≤ 16) : un m n 0 ≤ 16 - pcn m 16 := by
  have h := un_pcn m n 0
  have h2 := pcn_add m n (16 - n)
  rw [show n + (16 - n) = 16 by omega] at h2
  have h3 := pcn_le m 16
  have h4 : pcn m 0 = 0 := rfl
  rw [Nat.zero_add] at h
  omega
abbrev rl (X : XS) (i : Nat) : Nat := 16 - pk9 (X.2.1 i)
def wt (X : XS) (f u i : Nat) : Nat := if i < f then 1 else if i = f then 1 + u * cR (rl X f - 1) else cR (rl X i)
def PhX (X : XS) (f u : Nat) : Nat := sumN (fun i => yv X.2.2.2 i * wt X f u i) X.1
theorem PhX_mono {X : XS} {f u v : Nat} (h : u ≤ v) : PhX X f u ≤ PhX X f v := sumN_le _ fun i _ => by
  apply Nat.mul_le_mul_left
  unfold wt
  split
  · exact Nat.le_refl _
  · split
    · exact Nat.add_le_add_left (Nat.mul_le_mul_right _ h) _
    · exact Nat.le_refl _
theorem wt_pos (X : XS) (f u i : Nat) : 1 ≤ wt X f u i := by
  unfold wt
  split
  · exact Nat.le_refl _
  · split
    · omega
    · exact cR_pos _
theorem PhX_y {X : XS} {f u : Nat} : sumN (yv X.2.2.2) X.1 ≤ PhX X f u := sumN_le _ fun i _ => by
  have := Nat.mul_le_mul_left (yv X.2.2.2 i) (wt_pos X f u i)
  rw [Nat.mul_one] at this
  exact this
theorem PhX_next {X : XS} {f n m sz : Nat} (hn : n ≤ 16) (hg : KeyG (X.2.1 (f + 1)) m sz) : PhX X (f + 1) (un m n 0) ≤ PhX X f 0 := sumN_le _ fun i _ => by
  apply Nat.mul_le_mul_left
  unfold wt
  by_cases a : i < f
  · rw [if_pos (by omega), if_pos a]
    exact Nat.le_refl _
  · rw [if_neg a]
    by_cases b : i = f
    · rw [if_pos (by omega), if_pos b]
      omega
    · rw [if_neg (by omega), if_neg b]
      by_cases c : i = f + 1
      · rw [if_pos c]
        subst c
        have h1 := un_le (m := m) hn
        have h2 : rl X (f + 1) = 16 - pcn m 16 := by show 16 - pk9 _ = _; rw [pk9_eq hg]
        rw [h2]
        generalize 16 - pcn m 16 = r at h1
        cases r with
        | zero =>
          have : un m n 0 = 0 := by omega
          rw [this]
          decide
        | succ r =>
          show 1 + un m n 0 * cR (r + 1 - 1) ≤ 1 + (r + 1) * cR r
          exact Nat.add_le_add_left (Nat.mul_le_mul_right _ h1) _
      · rw [if_neg c]
        exact Nat.le_refl _
theorem yv_add {a b : Int64} (h : a.toBitVec.toNat + b.toBitVec.toNat < 2 ^ 64) : (a + b).toBitVec.toNat = a.toBitVec.toNat + b.toBitVec.toNat := by
  rw [Int64.toBitVec_add, BitVec.toNat_add]
  exact Nat.mod_eq_of_lt h
theorem xadd_Ph {X X2 : XS} {f m sz u : Nat} {key : Int32} {w : Int64} (hB : BInv f X) (hf : f < X.1) (hk : KeyG key m sz) (hp : pk9 key = pk9 (X.2.1 f) + 1) (h16 : pk9 key ≤ 16) (hy : ∀ i, i < X.1 → 1 ≤ yv X.2.2.2 i) (hC : PhX X f (u + 1) ≤ cR 16) (e : xadd X f key w = some X2) : (∀ i, i < X2.1 → 1 ≤ yv X2.2.2.2 i) ∧ PhX X2 f u ≤ cR 16 := by
  have hsm : ∀ i, i < X.1 → yv X.2.2.2 i < 2 ^ 63 := fun i hi => Nat.lt_of_le_of_lt (Nat.le_trans (sumN_ge (g := yv X.2.2.2) X.1 hi) (Nat.le_trans PhX_y hC)) cR16
  have hn := hB.1.1
  unfold xadd at e
  split at e
  · split at e
    · cases e
      constructor
      · intro i hi
        have hi : i < X.1 + 1 := hi
        show 1 ≤ yv (upF X.2.2.2 X.1 (X.2.2.2 f)) i
        unfold yv upF
        by_cases c : i = X.1
        · rw [if_pos c]
          exact hy f hf
        · rw [if_neg c]
          exact hy i (by omega)
      · refine Nat.le_trans (Nat.le_of_eq ?_) hC
        have e1 : PhX (X.1 + 1, upF X.2.1 X.1 key, upF X.2.2.1 X.1 w, upF X.2.2.2 X.1 (X.2.2.2 f)) f u = PhX X f u + yv X.2.2.2 f * cR (rl X f - 1) := by
          unfold PhX
          show sumN _ (X.1 + 1) = _
          simp only [sumN]
          congr 1
          · refine sumN_congr _ (fun i hi => ?_)
            have e2 : yv (upF X.2.2.2 X.1 (X.2.2.2 f)) i = yv X.2.2.2 i := by
              unfold yv upF
              rw [if_neg (by omega)]
            have e3 : ∀ j, j < X.1 → rl (X.1 + 1, upF X.2.1 X.1 key, upF X.2.2.1 X.1 w, upF X.2.2.2 X.1 (X.2.2.2 f)) j = rl X j := fun j hj => by
              show 16 - pk9 (upF X.2.1 X.1 key j) = _
              unfold upF
              rw [if_neg (by omega)]
            rw [e2]
            unfold wt
            rw [e3 f hf, e3 i hi]
          · have e2 : yv (upF X.2.2.2 X.1 (X.2.2.2 f)) X.1 = yv X.2.2.2 f := by
              unfold yv upF
              rw [if_pos rfl]
            have e3 : rl (X.1 + 1, upF X.2.1 X.1 key, upF X.2.2.1 X.1 w, upF X.2.2.2 X.1 (X.2.2.2 f)) X.1 = rl X f - 1 := by
              show 16 - pk9 (upF X.2.1 X.1 key X.1) = 16 - pk9 (X.2.1 f) - 1
              unfold upF
              rw [if_pos rfl, hp]
              omega
            rw [e2]
            unfold wt
            rw [if_neg (by omega), if_neg (by omega), e3]
        have e4 : PhX X f (u + 1) = PhX X f u + yv X.2.2.2 f * cR (rl X f - 1) := by
          have h := sumN_upd (g := fun i => yv X.2.2.2 i * wt X f (u + 1) i) (h := fun i => yv X.2.2.2 i * wt X f u i) (t := f) X.1 hf (fun i hi hne => by
            show _ * wt X f u i = _ * wt X f (u + 1) i
            unfold wt
            split
            · rfl
            · rfl)
          have e5 : yv X.2.2.2 f * wt X f (u + 1) f = yv X.2.2.2 f * wt X f u f + yv X.2.2.2 f * cR (rl X f - 1) := by
            unfold wt
            rw [if_neg (by omega), if_pos rfl, if_neg (by omega), if_pos rfl, ← Nat.mul_add]
            congr 1
            rw [Nat.succ_mul]
            omega
          have h : PhX X f u + yv X.2.2.2 f * wt X f (u + 1) f = PhX X f (u + 1) + yv X.2.2.2 f * wt X f u f := h
          omega
        rw [e1, e4]
    · cases e
  · rename_i hl
    cases e
    obtain ⟨t, t1, t2, t3, t4⟩ : ∃ t, t < X.1 ∧ lk X.2.1 X.2.2.1 key w X.1 = nI t ∧ X.2.1 t = key ∧ X.2.2.1 t = w := by
      rcases lk_spec X.2.1 X.2.2.1 key w X.1 with ⟨q, -⟩ | ⟨z, a, b, c⟩
      · exact absurd q hl
      · exact ⟨z, a, b, c⟩
    have ez : ix (lk X.2.1 X.2.2.1 key w X.1) = t := by rw [t2]; exact nI_clamp (by omega)
    rw [ez]
    have htf : f < t := by
      rcases Nat.lt_or_ge f t with c | c
      · exact c
      · have := hB.2.1 t f c hf
        rw [t3] at this
        omega
    have eadd : (X.2.2.2 t + X.2.2.2 f).toBitVec.toNat = yv X.2.2.2 t + yv X.2.2.2 f := yv_add (by
      have := hsm t t1
      have := hsm f hf
      show yv X.2.2.2 t + yv X.2.2.2 f < _
      omega)
    have eY : ∀ i, yv (upF X.2.2.2 t (X.2.2.2 t + X.2.2.2 f)) i = if i = t then yv X.2.2.2 t + yv X.2.2.2 f else yv X.2.2.2 i := fun i => by
      unfold yv upF
      by_cases c : i = t
      · rw [if_pos c, if_pos c]
        exact eadd
      · rw [if_neg c, if_neg c]
    constructor
    · intro i hi
      have hi : i < X.1 := hi
      show 1 ≤ yv (upF X.2.2.2 t (X.2.2.2 t + X.2.2.2 f)) i
      rw [eY]
      split
      · have := hy f hf
        omega
      · exact hy i hi
    · refine Nat.le_trans (Nat.le_of_eq ?_) hC
      have h1 := sumN_upd (g := fun i => yv X.2.2.2 i * wt X f (u + 1) i) (h := fun i => yv X.2.2.2 i * wt X f u i) (t := f) X.1 hf (fun i hi hne => by
        show _ * wt X f u i = _ * wt X f (u + 1) i
        unfold wt
        split
        · rfl
        · rfl)
      have e5 : yv X.2.2.2 f * wt X f (u + 1) f = yv X.2.2.2 f * wt X f u f + yv X.2.2.2 f * cR (rl X f - 1) := by
        unfold wt
        rw [if_neg (by omega), if_pos rfl, if_neg (by omega), if_pos rfl, ← Nat.mul_add]
        congr 1
        rw [Nat.succ_mul]
        omega
      have h2 := sumN_upd (g := fun i => yv X.2.2.2 i * wt X f u i) (h := fun i => (if i = t then yv X.2.2.2 t + yv X.2.2.2 f else yv X.2.2.2 i) * wt X f u i) (t := t) X.1 t1 (fun i hi hne => by
        show (if i = t then _ else _) * _ = _
        rw [if_neg hne])
      have e6 : (if t = t then yv X.2.2.2 t + yv X.2.2.2 f else yv X.2.2.2 t) * wt X f u t = yv X.2.2.2 t * wt X f u t + yv X.2.2.2 f * cR (rl X f - 1) := by
        rw [if_pos rfl, Nat.add_mul]
        congr 2
        unfold wt
        rw [if_neg (by omega), if_neg (by omega)]
        congr 1
        show 16 - pk9 (X.2.1 t) = 16 - pk9 (X.2.1 f) - 1
        rw [t3, hp]
        omega
      have e7 : PhX (X.1, X.2.1, X.2.2.1, upF X.2.2.2 t (X.2.2.2 t + X.2.2.2 f)) f u = sumN (fun i => (if i = t then yv X.2.2.2 t + yv X.2.2.2 f else yv X.2.2.2 i) * wt X f u i) X.1 := sumN_congr _ (fun i hi => by
        show yv (upF X.2.2.2 t (X.2.2.2 t + X.2.2.2 f)) i * _ = _
        rw [eY]
        rfl)
      have h1 : PhX X f u + yv X.2.2.2 f * wt X f (u + 1) f = PhX X f (u + 1) + yv X.2.2.2 f * wt X f u f := h1
      have h2 : sumN (fun i => (if i = t then yv X.2.2.2 t + yv X.2.2.2 f else yv X.2.2.2 i) * wt X f u i) X.1 + yv X.2.2.2 t * wt X f u t = PhX X f u + (if t = t then yv X.2.2.2 t + yv X.2.2.2 f else yv X.2.2.2 t) * wt X f u t := h2
      rw [e7]
      omega
theorem bpls_Ph {S : SF} (hS : SOK S) {f m sz : Nat} : ∀ (q p : Nat) (X X2 : XS), p + q ≤ 16 → BInv f X → f < X.1 → KeyG (X.2.1 f) m sz → (∀ i, i < X.1 → 1 ≤ yv X.2.2.2 i) → PhX X f (un m q p) ≤ cR 16 → bpls S f q p X = some X2 → (∀ i, i < X2.1 → 1 ≤ yv X2.2.2.2 i) ∧ PhX X2 f 0 ≤ cR 16
  | 0, _, X, X2, _, _, _, _, hy, hC, e => by
    have e : some X = some X2 := e
    cases e
    exact ⟨hy, hC⟩
  | q + 1, p, X, X2, hp, hB, hf, hg, hy, hC, e => by
    simp only [bpls] at e
    cases hx : bpl S f p X with
    | none => rw [hx] at e; cases e
    | some X3 =>
      rw [hx] at e
      obtain ⟨hB3, p3⟩ := bpl_BInv hS hB hf (by omega) hx
      have hf3 : f < X3.1 := by have := p3.1; omega
      have hg3 : KeyG (X3.2.1 f) m sz := by rw [(p3.2 f hf).1]; exact hg
      have step : (∀ i, i < X3.1 → 1 ≤ yv X3.2.2.2 i) ∧ PhX X3 f (un m q (p + 1)) ≤ cR 16 := by
        unfold bpl at hx
        split at hx
        · cases hx
          refine ⟨hy, Nat.le_trans (PhX_mono ?_) hC⟩
          simp only [un]
          omega
        · rename_i c hc
          obtain ⟨b, sz2, k1, k2⟩ := hS _ _ p c m sz (by omega) hg hc
          have hpk : pk9 (keyB (X.2.1 f) p c.2.1) = pk9 (X.2.1 f) + 1 := by
            rw [pk9_eq k2, pk9_eq hg, pcn16 (by omega) b]
          have h16 : pk9 (keyB (X.2.1 f) p c.2.1) ≤ 16 := by rw [pk9_eq k2]; exact pcn_le _ _
          have hb : ¬ m.testBit p = true := by rw [b]; decide
          have eu : un m (q + 1) p = un m q (p + 1) + 1 := by
            simp only [un]
            rw [if_neg hb]
            omega
          rw [eu] at hC
          exact xadd_Ph hB hf k2 hpk h16 hy hC hx
      exact bpls_Ph hS q (p + 1) X3 X2 (by omega) hB3 hf3 hg3 step.1 step.2 e
theorem bfs_Ph {S : SF} (hS : SOK S) {cnt : Nat} (hc : cnt ≤ 16) : ∀ (q f : Nat) (X X2 : XS), X.1 ≤ 2000 → (f < X.1 → BInv f X) → (∀ i, i < X.1 → 1 ≤ yv X.2.2.2 i) → sumN (yv X.2.2.2) X.1 ≤ cR 16 → (∀ m sz, f < X.1 → KeyG (X.2.1 f) m sz → PhX X f (un m cnt 0) ≤ cR 16) → bfs S cnt q f X = some X2 → (∀ i, i < X2.1 → 1 ≤ yv X2.2.2.2 i) ∧ sumN (yv X2.2.2.2) X2.1 ≤ cR 16
  | 0, _, X, X2, _, _, hy, hs, _, e => by
    have e : some X = some X2 := e
    cases e
    exact ⟨hy, hs⟩
  | q + 1, f, X, X2, hn, hB, hy, hs, hC, e => by
    simp only [bfs] at e
    by_cases hf : f < X.1
    · rw [if_pos hf] at e
      cases hx : bpls S f cnt 0 X with
      | none => rw [hx] at e; cases e
      | some X3 =>
        rw [hx] at e
        have hB := hB hf
        obtain ⟨m, sz, hg⟩ := hB.1.2 f hf
        obtain ⟨hB3, p3⟩ := bpls_BInv hS cnt 0 X X3 (by omega) hB hf hx
        obtain ⟨y3, c3⟩ := bpls_Ph hS cnt 0 X X3 (by omega) hB hf hg hy (hC m sz hf hg) hx
        exact bfs_Ph hS hc q (f + 1) X3 X2 hB3.1.1 (fun h => hB3.next h) y3 (Nat.le_trans PhX_y c3) (fun m2 sz2 _ g2 => Nat.le_trans (PhX_next hc g2) c3) e
    · rw [if_neg hf] at e
      cases e
      exact ⟨hy, hs⟩
theorem brun_pos {S : SF} (hS : SOK S) {cnt : Nat} (hc : cnt ≤ 16) {X : XS} (e : brun S cnt = some X) : (∀ i, i < X.1 → 1 ≤ yv X.2.2.2 i) ∧ sumN (yv X.2.2.2) X.1 < 2 ^ 63 := by
  have y0 : ∀ i, yv X0.2.2.2 i = 1 := fun i => by show (1 : Int64).toBitVec.toNat = 1; decide
  have hs0 : sumN (yv X0.2.2.2) X0.1 ≤ cR 16 := by
    show 0 + yv X0.2.2.2 0 ≤ _
    rw [y0]
    decide
  obtain ⟨h1, h2⟩ := bfs_Ph hS hc 2000 0 X0 X (by decide) (fun _ => X0_BInv) (fun i _ => by rw [y0]; exact Nat.le_refl _) hs0 (fun m sz _ hg => by
    show 0 + yv X0.2.2.2 0 * wt X0 0 (un m cnt 0) 0 ≤ cR 16
    rw [y0]
    unfold wt
    rw [if_neg (by omega), if_pos rfl]
    have h1 := un_le (m := m) hc
    have h2 : rl X0 0 = 16 := by show 16 - pk9 0 = 16; decide
    rw [h2]
    have h3 : un m cnt 0 ≤ 16 := by omega
    show 0 + 1 * (1 + un m cnt 0 * cR 15) ≤ 1 + 16 * cR 15
    have := Nat.mul_le_mul_right (cR 15) h3
    omega) e
  exact ⟨h1, Nat.lt_of_le_of_lt h2 cR16⟩
theorem wsum_nat {ret : Int32} {K : Nat → Int32} {Y : Nat → Int64} : ∀ n : Nat, sumN (yv Y) n < 2 ^ 63 → (wsum ret K Y n).toBitVec.toNat = sumN (fun i => if isE ret (K i) then yv Y i else 0) n
  | 0, _ => rfl
  | n + 1, h => by
    simp only [sumN] at h
    have ih := wsum_nat (ret := ret) (K := K) (Y := Y) n (by omega)
    have hle : sumN (fun i => if isE ret (K i) then yv Y i else 0) n ≤ sumN (yv Y) n := sumN_le n (fun i _ => by
      show (if _ then _ else _) ≤ _
      split <;> omega)
    simp only [wsum, sumN]
    by_cases c : isE ret (K n)
    · rw [if_pos c, if_pos c, yv_add (by rw [ih]; show _ + yv Y n < _; omega), ih]
    · rw [if_neg c, if_neg c, ih, Nat.add_zero]
theorem sumN_0 {g : Nat → Nat} : ∀ n : Nat, sumN g n = 0 ↔ ∀ i, i < n → g i = 0
  | 0 => ⟨fun _ i hi => absurd hi (Nat.not_lt_zero i), fun _ => rfl⟩
  | n + 1 => by
    simp only [sumN]
    have ih := sumN_0 (g := g) n
    constructor
    · intro h i hi
      rcases Nat.lt_succ_iff_lt_or_eq.mp hi with q | q
      · exact ih.mp (by omega) i q
      · subst q; omega
    · intro h
      have := ih.mpr (fun i hi => h i (by omega))
      have := h n (Nat.lt_succ_self n)
      omega
theorem i64_le0 {w : Int64} (h : w.toBitVec.toNat < 2 ^ 63) : (w ≤ 0 ↔ w.toBitVec.toNat = 0) ∧ (w = 0 ↔ w.toBitVec.toNat = 0) := by
  have e : w.toInt = w.toBitVec.toNat := by
    show w.toBitVec.toInt = _
    exact BitVec.toInt_eq_toNat_of_lt (by omega)
  have e0 : (0 : Int64).toInt = 0 := by decide
  constructor
  · rw [Int64.le_iff_toInt_le, e, e0]
    omega
  · rw [← Int64.toInt_inj, e, e0]
    omega
theorem wsum_pos {S : SF} (hS : SOK S) {cnt : Nat} (hc : cnt ≤ 16) {X : XS} (e : brun S cnt = some X) {ret : Int32} : (wsum ret X.2.1 X.2.2.2 X.1 ≤ 0 ↔ ∀ i, i < X.1 → ¬ isE ret (X.2.1 i)) ∧ (wsum ret X.2.1 X.2.2.2 X.1 = 0 ↔ ∀ i, i < X.1 → ¬ isE ret (X.2.1 i)) := by
  obtain ⟨h1, h2⟩ := brun_pos hS hc e
  have hw := wsum_nat (ret := ret) (K := X.2.1) (Y := X.2.2.2) X.1 h2
  have hle : sumN (fun i => if isE ret (X.2.1 i) then yv X.2.2.2 i else 0) X.1 ≤ sumN (yv X.2.2.2) X.1 := sumN_le _ (fun i _ => by
    show (if _ then _ else _) ≤ _
    split <;> omega)
  have hz : sumN (fun i => if isE ret (X.2.1 i) then yv X.2.2.2 i else 0) X.1 = 0 ↔ ∀ i, i < X.1 → ¬ isE ret (X.2.1 i) := by
    rw [sumN_0]
    constructor
    · intro h i hi c
      have := h i hi
      rw [if_pos c] at this
      have := h1 i hi
      omega
    · intro h i hi
      show (if _ then _ else _) = _
      rw [if_neg (h i hi)]
  obtain ⟨a, b⟩ := i64_le0 (w := wsum ret X.2.1 X.2.2.2 X.1) (by omega)
  exact ⟨by rw [a, hw, hz], by rw [b, hw, hz]⟩
