/-! WHAT CAN BE REACHED -/
def Rch (S : SF) (cnt : Nat) (key : Int32) (w : Int64) : Prop := ∀ P : Int32 → Int64 → Prop, P 0 0 → (∀ (key : Int32) (w : Int64) (p : Nat) (c : Int64 × Int32 × Int32), P key w → p < cnt → S key w p = some c → P (keyB key p c.2.1) c.1) → P key w
theorem Rch.zero {S : SF} {cnt : Nat} : Rch S cnt 0 0 := fun _ h _ => h
theorem Rch.step {S : SF} {cnt : Nat} {key : Int32} {w : Int64} {p : Nat} {c : Int64 × Int32 × Int32} (h : Rch S cnt key w) (hp : p < cnt) (e : S key w p = some c) : Rch S cnt (keyB key p c.2.1) c.1 := fun P h0 hs => hs _ _ _ _ (h P h0 hs) hp e
theorem Rch.ind {S : SF} {cnt : Nat} {P : Int32 → Int64 → Prop} (h0 : P 0 0) (hs : ∀ (key : Int32) (w : Int64) (p : Nat) (c : Int64 × Int32 × Int32), Rch S cnt key w → P key w → p < cnt → S key w p = some c → P (keyB key p c.2.1) c.1) {key : Int32} {w : Int64} (h : Rch S cnt key w) : P key w := by
  have := h (fun k v => Rch S cnt k v ∧ P k v) ⟨Rch.zero, h0⟩ (fun k v p c hh hp e => ⟨hh.1.step hp e, hs k v p c hh.1 hh.2 hp e⟩)
  exact this.2
theorem Rch.key {S : SF} (hS : SOK S) {cnt : Nat} (hc : cnt ≤ 16) {key : Int32} {w : Int64} (h : Rch S cnt key w) : ∃ m sz, KeyG key m sz := Rch.ind (P := fun key _ => ∃ m sz, KeyG key m sz) ⟨0, 0, ⟨rfl, by decide, by decide⟩, Nat.zero_le _⟩ (fun key w p c _ ⟨m, sz, hg⟩ hp e => by
  obtain ⟨-, sz2, -, h2⟩ := hS key w p c m sz (by omega) hg e
  exact ⟨_, _, h2⟩) h
theorem Rch.has {S : SF} (hS : SOK S) {cnt : Nat} (hc : cnt ≤ 16) {X : XS} (e : brun S cnt = some X) {key : Int32} {w : Int64} (h : Rch S cnt key w) : Has X key w := by
  obtain ⟨-, hC, h0, k0, w0⟩ := brun_fin hS hc e
  refine Rch.ind (P := fun key w => Has X key w) ⟨0, h0, k0, w0⟩ (fun key w p c _ hh hp ec => ?_) h
  obtain ⟨i, i1, i2, i3⟩ := hh
  have := hC i i1 i1 p hp c (by rw [i2, i3]; exact ec)
  rw [i2] at this
  exact this
/-- tables of what can be reached -/
def WX (P : Int32 → Int64 → Prop) (X : XS) : Prop := X.1 ≤ 2000 ∧ (∀ i, i < X.1 → P (X.2.1 i) (X.2.2.1 i)) ∧ ∀ i j, i < j → j < X.1 → ¬ (X.2.1 i = X.2.1 j ∧ X.2.2.1 i = X.2.2.1 j)
def Ovr (P : Int32 → Int64 → Prop) : Prop := ∃ Y : XS, WX P Y ∧ Y.1 = 2000 ∧ ∃ key w, P key w ∧ ∀ i, i < Y.1 → ¬ (Y.2.1 i = key ∧ Y.2.2.1 i = w)
theorem xadd_WX {P : Int32 → Int64 → Prop} {X : XS} {f : Nat} {key : Int32} {w : Int64} (h : WX P X) (hp : P key w) : (xadd X f key w = none → Ovr P) ∧ ∀ X2, xadd X f key w = some X2 → WX P X2 ∧ X.1 ≤ X2.1 := by
  unfold xadd
  by_cases c : lk X.2.1 X.2.2.1 key w X.1 = -1
  · rw [if_pos c]
    have hno : ∀ i, i < X.1 → ¬ (X.2.1 i = key ∧ X.2.2.1 i = w) := by
      rcases lk_spec X.2.1 X.2.2.1 key w X.1 with ⟨-, q⟩ | ⟨i, q1, q2, -⟩
      · exact q
      · rw [q2] at c
        exact absurd c (lk_ne (by have := h.1; omega))
    by_cases d : X.1 < 2000
    · rw [if_pos d]
      refine ⟨fun e => (by cases e), fun X2 e => ?_⟩
      cases e
      refine ⟨⟨d, fun i hi => ?_, fun i j hij hj => ?_⟩, Nat.le_succ _⟩
      · have hi : i < X.1 + 1 := hi
        show P (upF X.2.1 X.1 key i) (upF X.2.2.1 X.1 w i)
        unfold upF
        by_cases q : i = X.1
        · rw [if_pos q, if_pos q]; exact hp
        · rw [if_neg q, if_neg q]; exact h.2.1 i (by omega)
      · have hj : j < X.1 + 1 := hj
        show ¬ (upF X.2.1 X.1 key i = upF X.2.1 X.1 key j ∧ upF X.2.2.1 X.1 w i = upF X.2.2.1 X.1 w j)
        unfold upF
        rw [if_neg (show i ≠ X.1 by omega), if_neg (show i ≠ X.1 by omega)]
        by_cases q : j = X.1
        · rw [if_pos q, if_pos q]; exact hno i (by omega)
        · rw [if_neg q, if_neg q]; exact h.2.2 i j hij (by omega)
    · rw [if_neg d]
      exact ⟨fun _ => ⟨X, h, by have := h.1; omega, key, w, hp, hno⟩, fun X2 e => by cases e⟩
  · rw [if_neg c]
    refine ⟨fun e => (by cases e), fun X2 e => ?_⟩
    cases e
    exact ⟨h, Nat.le_refl _⟩
theorem bpls_WX {S : SF} {P : Int32 → Int64 → Prop} {cnt f : Nat} (hP : ∀ (key : Int32) (w : Int64) (p : Nat) (c : Int64 × Int32 × Int32), P key w → p < cnt → S key w p = some c → P (keyB key p c.2.1) c.1) : ∀ (q p : Nat) (X : XS), p + q ≤ cnt → f < X.1 → WX P X → (bpls S f q p X = none → Ovr P) ∧ ∀ X2, bpls S f q p X = some X2 → WX P X2 ∧ X.1 ≤ X2.1
  | 0, _, X, _, _, h => by
    refine ⟨fun e => absurd (show some X = none from e) (by simp), fun X2 e => ?_⟩
    have e : some X = some X2 := e
    cases e
    exact ⟨h, Nat.le_refl _⟩
  | q + 1, p, X, hp, hf, h => by
    have hb : (bpl S f p X = none → Ovr P) ∧ ∀ X2, bpl S f p X = some X2 → WX P X2 ∧ X.1 ≤ X2.1 := by
      unfold bpl
      cases hc : S (X.2.1 f) (X.2.2.1 f) p with
      | none =>
        refine ⟨fun e => (by cases e), fun X2 e => ?_⟩
        have e : some X = some X2 := e
        cases e
        exact ⟨h, Nat.le_refl _⟩
      | some c => exact xadd_WX h (hP _ _ p c (h.2.1 f hf) (by omega) hc)
    simp only [bpls]
    cases hx : bpl S f p X with
    | none => exact ⟨fun _ => hb.1 hx, fun X2 e => by cases e⟩
    | some X3 =>
      obtain ⟨h3, l3⟩ := hb.2 X3 hx
      obtain ⟨r1, r2⟩ := bpls_WX (f := f) hP q (p + 1) X3 (by omega) (by omega) h3
      exact ⟨r1, fun X2 e => ⟨(r2 X2 e).1, Nat.le_trans l3 (r2 X2 e).2⟩⟩
theorem bfs_WX {S : SF} {P : Int32 → Int64 → Prop} {cnt : Nat} (hP : ∀ (key : Int32) (w : Int64) (p : Nat) (c : Int64 × Int32 × Int32), P key w → p < cnt → S key w p = some c → P (keyB key p c.2.1) c.1) : ∀ (q f : Nat) (X : XS), WX P X → (bfs S cnt q f X = none → Ovr P) ∧ ∀ X2, bfs S cnt q f X = some X2 → WX P X2
  | 0, _, X, h => by
    refine ⟨fun e => absurd (show some X = none from e) (by simp), fun X2 e => ?_⟩
    have e : some X = some X2 := e
    cases e
    exact h
  | q + 1, f, X, h => by
    simp only [bfs]
    by_cases hf : f < X.1
    · rw [if_pos hf]
      obtain ⟨b1, b2⟩ := bpls_WX hP cnt 0 X (by omega) hf h
      cases hx : bpls S f cnt 0 X with
      | none => exact ⟨fun _ => b1 hx, fun X2 e => by cases e⟩
      | some X3 => exact bfs_WX hP q (f + 1) X3 (b2 X3 hx).1
    · rw [if_neg hf]
      refine ⟨fun e => (by cases e), fun X2 e => ?_⟩
      cases e
      exact h
theorem brun_WX {S : SF} {cnt : Nat} : (brun S cnt = none → Ovr (Rch S cnt)) ∧ ∀ X, brun S cnt = some X → WX (Rch S cnt) X := bfs_WX (fun key w p c h hp e => h.step hp e) 2000 0 X0 ⟨by decide, fun i _ => Rch.zero, fun i j hij hj => by
  have hj : j < 1 := hj
  omega⟩
theorem pigeon : ∀ (n m : Nat) (f : Nat → Nat), (∀ i, i < n → f i < m) → (∀ i j, i < j → j < n → f i ≠ f j) → n ≤ m
  | 0, _, _, _, _ => Nat.zero_le _
  | n + 1, m, f, h1, h2 => by
    have hn := h1 n (Nat.lt_succ_self n)
    obtain ⟨k, rfl⟩ : ∃ k, m = k + 1 := ⟨m - 1, by omega⟩
    have := pigeon n k (fun i => if f i = k then f n else f i) (fun i hi => by
      show (if f i = k then f n else f i) < k
      have a := h1 i (by omega)
      have b := h2 i n hi (Nat.lt_succ_self n)
      split <;> omega) (fun i j hij hj => by
      show (if f i = k then f n else f i) ≠ if f j = k then f n else f j
      have a := h2 i j hij (by omega)
      have b := h2 i n (by omega) (Nat.lt_succ_self n)
      have c := h2 j n hj (Nat.lt_succ_self n)
      split
      · split
        · omega
        · omega
      · split
        · omega
        · omega)
    omega
theorem not_Ovr {P : Int32 → Int64 → Prop} {Z : XS} (hZ : Z.1 ≤ 2000) (h : ∀ key w, P key w → Has Z key w) : ¬ Ovr P := by
  rintro ⟨Y, hY, hY2, key, w, hp, hno⟩
  have ix_of : ∀ key w, P key w → ix (lk Z.2.1 Z.2.2.1 key w Z.1) < Z.1 ∧ Z.2.1 (ix (lk Z.2.1 Z.2.2.1 key w Z.1)) = key ∧ Z.2.2.1 (ix (lk Z.2.1 Z.2.2.1 key w Z.1)) = w := fun key w hp => by
    obtain ⟨i, i1, i2, i3, i4⟩ := lk_has (h key w hp)
    have e : ix (lk Z.2.1 Z.2.2.1 key w Z.1) = i := by rw [i2]; exact nI_clamp (by omega)
    rw [e]
    exact ⟨i1, i3, i4⟩
  have := pigeon 2001 Z.1 (fun i => if i < 2000 then ix (lk Z.2.1 Z.2.2.1 (Y.2.1 i) (Y.2.2.1 i) Z.1) else ix (lk Z.2.1 Z.2.2.1 key w Z.1)) (fun i hi => by
    show (if i < 2000 then _ else _) < _
    by_cases c : i < 2000
    · rw [if_pos c]
      exact (ix_of _ _ (hY.2.1 i (by omega))).1
    · rw [if_neg c]
      exact (ix_of _ _ hp).1) (fun i j hij hj => by
    show (if i < 2000 then _ else _) ≠ if j < 2000 then _ else _
    have ci : i < 2000 := by omega
    obtain ⟨-, a2, a3⟩ := ix_of _ _ (hY.2.1 i (by omega))
    rw [if_pos ci]
    by_cases c : j < 2000
    · rw [if_pos c]
      obtain ⟨-, b2, b3⟩ := ix_of _ _ (hY.2.1 j (by omega))
      intro e
      rw [e] at a2 a3
      exact hY.2.2 i j hij (by omega) ⟨a2.symm.trans b2, a3.symm.trans b3⟩
    · rw [if_neg c]
      obtain ⟨-, b2, b3⟩ := ix_of _ _ hp
      intro e
      rw [e] at a2 a3
      exact hno i (by omega) ⟨a2.symm.trans b2, a3.symm.trans b3⟩)
  omega
/-- what is judged, by what can be reached -/
theorem rjd_0 {R : Nat → Nat → Int32} {N : Nat → Nat} {kind : Int32} {cnt : Nat} {until_ own : Int32} (hc : cnt ≤ 16) : rjd R N kind cnt until_ own = 0 ↔ (∃ X, brun (rstp R N kind cnt until_ own) cnt = some X) ∧ ∀ key w, Rch (rstp R N kind cnt until_ own) cnt key w → ¬ rEnd R cnt until_ key := by
  have hS := rstp_SOK R N kind cnt until_ own
  unfold rjd
  cases hx : brun (rstp R N kind cnt until_ own) cnt with
  | none => exact ⟨fun h => absurd (show (-2 : Int32) = 0 from h) (by decide), fun ⟨⟨X, e⟩, _⟩ => by cases e⟩
  | some X =>
    show (if _ then (0 : Int32) else 1) = 0 ↔ _
    by_cases c : ∀ p, p < X.1 → ¬ rEnd R cnt until_ (X.2.1 p)
    · rw [if_pos c]
      refine ⟨fun _ => ⟨⟨X, rfl⟩, fun key w h => ?_⟩, fun _ => rfl⟩
      obtain ⟨i, i1, i2, i3⟩ := h.has hS hc hx
      rw [← i2]
      exact c i i1
    · rw [if_neg c]
      refine ⟨fun h => absurd h (by decide), fun ⟨_, h⟩ => absurd (fun p hp => h _ _ ((brun_WX.2 X hx).2.1 p hp)) c⟩
theorem rjd_1 {R : Nat → Nat → Int32} {N : Nat → Nat} {kind : Int32} {cnt : Nat} {until_ own : Int32} (h : rjd R N kind cnt until_ own = 1) : ∃ key w, Rch (rstp R N kind cnt until_ own) cnt key w ∧ rEnd R cnt until_ key := by
  unfold rjd at h
  cases hx : brun (rstp R N kind cnt until_ own) cnt with
  | none => rw [hx] at h; exact absurd (show (-2 : Int32) = 1 from h) (by decide)
  | some X =>
    rw [hx] at h
    have h : (if ∀ p, p < X.1 → ¬ rEnd R cnt until_ (X.2.1 p) then (0 : Int32) else 1) = 1 := h
    by_cases c : ∀ p, p < X.1 → ¬ rEnd R cnt until_ (X.2.1 p)
    · rw [if_pos c] at h; exact absurd h (by decide)
    · apply Classical.byContradiction
      intro hn
      apply c
      intro p hp he
      exact hn ⟨_, _, (brun_WX.2 X hx).2.1 p hp, he⟩
/-! EVENTS of an object: when its operations were called, when they came back -/
def EV (R : Nat → Nat → Int32) (cnt ev : Nat) (ca ba : Nat → Nat) : Prop := cnt ≤ 16 ∧ ev < 2 ^ 30 ∧ (∀ i, i < cnt → R i 10 = nI (ca i) ∧ R i 11 = nI (ba i) ∧ 1 ≤ ca i ∧ ca i ≤ ev ∧ (ba i = 0 ∨ ca i < ba i ∧ ba i ≤ ev)) ∧ ∀ i j, i < cnt → j < cnt → ba i ≠ ca j
theorem EV.isb {R : Nat → Nat → Int32} {cnt ev : Nat} {ca ba : Nat → Nat} (h : EV R cnt ev ca ba) {i e : Nat} (hi : i < cnt) (he : e ≤ ev) : bk (R i 11) (nI e) ↔ 0 < ba i ∧ ba i ≤ e := by
  obtain ⟨-, h2, h3, -⟩ := h
  obtain ⟨-, a, -, -, b⟩ := h3 i hi
  have hb : ba i < 2 ^ 31 := by omega
  unfold bk
  rw [a]
  have e0 : (0 : Int32) = nI 0 := rfl
  rw [e0, nI_ltI (by decide) hb, nI_leI hb (by omega)]
theorem EV.step {R : Nat → Nat → Int32} {cnt ev : Nat} {ca ba : Nat → Nat} (h : EV R cnt ev ca ba) {N : Nat → Nat} {kind key : Int32} {w : Int64} {p e m sz : Nat} {c : Int64 × Int32 × Int32} (hp : p < cnt) (he : e ≤ ev) (hg : KeyG key m sz) : rstp R N kind cnt (nI e) 0 key w p = some c ↔ m.testBit p = false ∧ ca p ≤ e ∧ (∀ j, j < cnt → m.testBit j = false → ba j = 0 ∨ ca p ≤ ba j) ∧ (0 < ba p → ba p ≤ e → c.2.2 = R p 9) ∧ c = rchg R kind p w (ix (jis key 16)) := by
  have h0 := h
  obtain ⟨h1, h2, h3, h4⟩ := h
  have hk := hg.1
  have hrb : ∀ j, j < cnt → ((jis key (nI j) &&& 1) = 1 ↔ m.testBit j = true) ∧ ((jis key (nI j) &&& 1) = 0 ↔ m.testBit j = false) := fun j hj => by
    rw [jis_bit hk (by omega)]
    by_cases ht : m.testBit j = true
    · rw [if_pos ht, ht]; decide
    · rw [if_neg ht]
      have ht := (bf_iff _).mp ht
      rw [ht]; decide
  obtain ⟨a10, a11, c1, c2, c3⟩ := h3 p hp
  have hlt : nI e < R p 10 ↔ e < ca p := by rw [a10, nI_ltI (by omega) (by omega)]
  have hbf : ∀ j, j < cnt → ca p ≤ e → (bfE R N (nI e) 0 j p ↔ 0 < ba j ∧ ba j < ca p) := fun j hj hle => by
    obtain ⟨b10, b11, -, -, d3⟩ := h3 j hj
    unfold bfE
    rw [if_pos rfl, h0.isb hj he, b11, a10, nI_ltI (by omega) (by omega)]
    omega
  have hbar : ¬ rBar R N cnt (nI e) 0 key p ↔ m.testBit p = false ∧ ca p ≤ e ∧ ∀ j, j < cnt → m.testBit j = false → ba j = 0 ∨ ca p ≤ ba j := by
    unfold rBar
    rw [(hrb p hp).1, hlt]
    constructor
    · intro q
      have q1 : ca p ≤ e := by
        rcases Nat.lt_or_ge e (ca p) with z | z
        · exact absurd (Or.inr (Or.inl z)) q
        · exact z
      refine ⟨(bf_iff _).mp (fun z => q (Or.inl z)), q1, fun j hj hm => ?_⟩
      apply Classical.byContradiction
      intro hn
      apply q
      right; right
      intro hall
      have hpj : j ≠ p := by
        intro e
        subst e
        omega
      exact hall j hj ⟨(hrb j hj).2.mpr hm, hpj, (hbf j hj q1).mpr (by omega)⟩
    · rintro ⟨q1, q2, q3⟩ (z | z | z)
      · rw [q1] at z; cases z
      · omega
      · apply z
        rintro j hj ⟨y1, y2, y3⟩
        have := q3 j hj ((hrb j hj).2.mp y1)
        have := (hbf j hj q2).mp y3
        omega
  unfold rstp
  by_cases hb : rBar R N cnt (nI e) 0 key p
  · rw [if_pos hb]
    constructor
    · intro q; cases q
    · rintro ⟨q1, q2, q3, -⟩
      exact absurd hb (hbar.mpr ⟨q1, q2, q3⟩)
  · rw [if_neg hb]
    obtain ⟨q1, q2, q3⟩ := hbar.mp hb
    by_cases hs : bk (R p 11) (nI e) ∧ (rchg R kind p w (ix (jis key 16))).2.2 ≠ R p 9
    · rw [if_pos hs]
      constructor
      · intro q; cases q
      · rintro ⟨-, -, -, y1, y2⟩
        have hbk := (h0.isb hp he).mp hs.1
        have := y1 hbk.1 hbk.2
        rw [y2] at this
        exact absurd this hs.2
    · rw [if_neg hs]
      constructor
      · intro q
        cases q
        refine ⟨q1, q2, q3, fun x1 x2 => ?_, rfl⟩
        exact Decidable.not_not.mp (fun z => hs ⟨(h0.isb hp he).mpr ⟨x1, x2⟩, z⟩)
      · rintro ⟨-, -, -, -, y2⟩
        rw [y2]
theorem EV.end_ {R : Nat → Nat → Int32} {cnt ev : Nat} {ca ba : Nat → Nat} (h : EV R cnt ev ca ba) {key : Int32} {e m sz : Nat} (he : e ≤ ev) (hg : KeyG key m sz) : rEnd R cnt (nI e) key ↔ ∀ j, j < cnt → 0 < ba j → ba j ≤ e → m.testBit j = true := by
  have h1 := h.1
  have hk := hg.1
  unfold rEnd
  constructor
  · intro q j hj x1 x2
    apply Classical.byContradiction
    intro hn
    apply q j hj
    refine ⟨?_, (h.isb hj he).mpr ⟨x1, x2⟩⟩
    rw [jis_bit hk (by omega), if_neg hn]
  · rintro q j hj ⟨y1, y2⟩
    have hb := (h.isb hj he).mp y2
    rw [jis_bit hk (by omega), if_pos (q j hj hb.1 hb.2)] at y1
    exact absurd y1 (by decide)
theorem step_key {S : SF} (hS : SOK S) {key : Int32} {w : Int64} {p m sz : Nat} {c : Int64 × Int32 × Int32} (hp : p < 16) (hg : KeyG key m sz) (e : S key w p = some c) : ∃ sz2, KeyG (keyB key p c.2.1) (m ||| 2 ^ p) sz2 := by
  obtain ⟨-, sz2, -, h⟩ := hS key w p c m sz hp hg e
  exact ⟨sz2, h⟩
theorem KeyG.mask {key : Int32} {m sz m2 sz2 : Nat} (h : KeyG key m sz) (h2 : KeyG key m2 sz2) : m = m2 := by
  have e := h.1.done
  rw [h2.1.done] at e
  have a := h.1.2.1
  have b := h2.1.2.1
  exact ((nI_eq (by omega) (by omega)).mp e).symm
/-- an event that is no coming back breaks nothing -/
theorem EV.back1 {R : Nat → Nat → Int32} {cnt ev : Nat} {ca ba : Nat → Nat} (h : EV R cnt ev ca ba) {N : Nat → Nat} {kind : Int32} {e : Nat} (he : e + 1 ≤ ev) (hnb : ∀ i, i < cnt → ba i ≠ e + 1) (hj : rjd R N kind cnt (nI (e + 1)) 0 = 0) : rjd R N kind cnt (nI e) 0 = 0 := by
  have hc := h.1
  obtain ⟨⟨X, hX⟩, hno⟩ := (rjd_0 hc).mp hj
  have hS := rstp_SOK R N kind cnt (nI e) 0
  have sub : ∀ key w, Rch (rstp R N kind cnt (nI e) 0) cnt key w → Rch (rstp R N kind cnt (nI (e + 1)) 0) cnt key w := fun key w hr => Rch.ind (P := fun key w => Rch (rstp R N kind cnt (nI (e + 1)) 0) cnt key w) Rch.zero (fun key w p c hr ih hp ec => by
    obtain ⟨m, sz, hg⟩ := hr.key hS hc
    obtain ⟨a1, a2, a3, a4, a5⟩ := (h.step hp (by omega) hg).mp ec
    refine ih.step hp ((h.step hp (by omega) hg).mpr ⟨a1, by omega, a3, fun x1 x2 => a4 x1 ?_, a5⟩)
    have := hnb p hp
    omega) hr
  refine (rjd_0 hc).mpr ⟨?_, fun key w hr hend => ?_⟩
  · cases hx : brun (rstp R N kind cnt (nI e) 0) cnt with
    | some Y => exact ⟨Y, rfl⟩
    | none =>
      exfalso
      exact not_Ovr (Z := X) (brun_le (rstp_SOK _ _ _ _ _ _) hc hX) (fun key w hr => (sub key w hr).has (rstp_SOK _ _ _ _ _ _) hc hX) (brun_WX.1 hx)
  · obtain ⟨m, sz, hg⟩ := hr.key hS hc
    apply hno key w (sub key w hr)
    have q := (h.end_ (by omega) hg).mp hend
    exact (h.end_ he hg).mpr (fun j hj x1 x2 => q j hj x1 (by have := hnb j hj; omega))
theorem EV.at0 {R : Nat → Nat → Int32} {cnt ev : Nat} {ca ba : Nat → Nat} (h : EV R cnt ev ca ba) {N : Nat → Nat} {kind : Int32} : rjd R N kind cnt (nI 0) 0 ≠ 0 := fun hj => by
  obtain ⟨-, hno⟩ := (rjd_0 h.1).mp hj
  apply hno 0 0 Rch.zero
  exact (h.end_ (Nat.zero_le _) ⟨⟨rfl, by decide, by decide⟩, Nat.zero_le _⟩).mpr (fun j _ x1 x2 => by omega)
theorem EV.back {R : Nat → Nat → Int32} {cnt ev : Nat} {ca ba : Nat → Nat} (h : EV R cnt ev ca ba) {N : Nat → Nat} {kind : Int32} : ∀ e : Nat, e ≤ ev → rjd R N kind cnt (nI e) 0 = 0 → ∃ d i, d ≤ e ∧ 1 ≤ d ∧ i < cnt ∧ ba i = d ∧ rjd R N kind cnt (nI d) 0 = 0
  | 0, _, hj => absurd hj h.at0
  | e + 1, he, hj => by
    by_cases c : ∃ i, i < cnt ∧ ba i = e + 1
    · obtain ⟨i, i1, i2⟩ := c
      exact ⟨e + 1, i, Nat.le_refl _, by omega, i1, i2, hj⟩
    · have hnb : ∀ i, i < cnt → ba i ≠ e + 1 := fun i hi e => c ⟨i, hi, e⟩
      obtain ⟨d, i, r1, r2, r3⟩ := h.back e (by omega) (h.back1 he hnb hj)
      exact ⟨d, i, by omega, r2, r3⟩
/-- a way can be cut off behind what had come back -/
theorem EV.cut {R : Nat → Nat → Int32} {cnt ev : Nat} {ca ba : Nat → Nat} (h : EV R cnt ev ca ba) {N : Nat → Nat} {kind : Int32} (hj : rjd R N kind cnt (nI ev) 0 = 1) {e : Nat} (he : e ≤ ev) : rjd R N kind cnt (nI e) 0 ≠ 0 := fun hz => by
  have hc := h.1
  have hS := rstp_SOK R N kind cnt (nI ev) 0
  obtain ⟨-, hno⟩ := (rjd_0 hc).mp hz
  obtain ⟨key, w, hr, hend⟩ := rjd_1 hj
  have inv : ∀ key w, Rch (rstp R N kind cnt (nI ev) 0) cnt key w → ∃ m sz, KeyG key m sz ∧ (∀ x, x < cnt → m.testBit x = true → ∀ z, z < cnt → m.testBit z = false → ba z = 0 ∨ ca x ≤ ba z) ∧ ((∀ x, x < cnt → m.testBit x = true → ca x ≤ e) → Rch (rstp R N kind cnt (nI e) 0) cnt key w) ∧ ∃ key2 w2 m2 sz2, Rch (rstp R N kind cnt (nI e) 0) cnt key2 w2 ∧ KeyG key2 m2 sz2 ∧ ∀ j, j < cnt → 0 < ba j → ba j ≤ e → m.testBit j = true → m2.testBit j = true := fun key w hr => by
    refine Rch.ind (P := fun key w => ∃ m sz, KeyG key m sz ∧ (∀ x, x < cnt → m.testBit x = true → ∀ z, z < cnt → m.testBit z = false → ba z = 0 ∨ ca x ≤ ba z) ∧ ((∀ x, x < cnt → m.testBit x = true → ca x ≤ e) → Rch (rstp R N kind cnt (nI e) 0) cnt key w) ∧ ∃ key2 w2 m2 sz2, Rch (rstp R N kind cnt (nI e) 0) cnt key2 w2 ∧ KeyG key2 m2 sz2 ∧ ∀ j, j < cnt → 0 < ba j → ba j ≤ e → m.testBit j = true → m2.testBit j = true) ?_ ?_ hr
    · refine ⟨0, 0, ⟨⟨rfl, by decide, by decide⟩, Nat.zero_le _⟩, fun x _ hx => ?_, fun _ => Rch.zero, 0, 0, 0, 0, Rch.zero, ⟨⟨rfl, by decide, by decide⟩, Nat.zero_le _⟩, fun j _ _ _ q => q⟩
      rw [Nat.zero_testBit] at hx
      cases hx
    · rintro key w p c hr ⟨m, sz, hg, iC, iA, key2, w2, m2, sz2, r2, g2, iB⟩ hp ec
      obtain ⟨a1, a2, a3, a4, a5⟩ := (h.step hp (Nat.le_refl _) hg).mp ec
      obtain ⟨sz3, g3⟩ := step_key hS (by omega) hg ec
      have tb : ∀ x, (m ||| 2 ^ p).testBit x = true ↔ m.testBit x = true ∨ x = p := fun x => by
        rw [Nat.testBit_or, Nat.testBit_two_pow]
        simp
        constructor
        · rintro (q | q)
          · exact Or.inl q
          · exact Or.inr q.symm
        · rintro (q | q)
          · exact Or.inl q
          · exact Or.inr q.symm
      have tf : ∀ x, (m ||| 2 ^ p).testBit x = false → m.testBit x = false ∧ x ≠ p := fun x q => by
        refine ⟨(bf_iff _).mp (fun z => ?_), fun z => ?_⟩
        · rw [(tb x).mpr (Or.inl z)] at q; cases q
        · rw [(tb x).mpr (Or.inr z)] at q; cases q
      have nA : (∀ x, x < cnt → (m ||| 2 ^ p).testBit x = true → ca x ≤ e) → Rch (rstp R N kind cnt (nI e) 0) cnt (keyB key p c.2.1) c.1 := fun q => by
        have r := iA (fun x hx hm => q x hx ((tb x).mpr (Or.inl hm)))
        refine r.step hp ((h.step hp he hg).mpr ⟨a1, q p hp ((tb p).mpr (Or.inr rfl)), a3, fun x1 x2 => a4 x1 (by omega), a5⟩)
      refine ⟨_, sz3, g3, fun x hx hm z hz hmz => ?_, nA, ?_⟩
      · obtain ⟨z1, z2⟩ := tf z hmz
        rcases (tb x).mp hm with q | q
        · exact iC x hx q z hz z1
        · subst q
          exact a3 z hz z1
      · by_cases hb : 0 < ba p ∧ ba p ≤ e
        · have r := nA (fun x hx hm => by
            rcases (tb x).mp hm with q | q
            · have := iC x hx q p hp a1
              omega
            · subst q
              obtain ⟨-, -, -, -, d⟩ := h.2.2.1 x hp
              omega)
          exact ⟨_, _, _, sz3, r, g3, fun j _ _ _ q => q⟩
        · refine ⟨key2, w2, m2, sz2, r2, g2, fun j hj x1 x2 q => ?_⟩
          rcases (tb j).mp q with z | z
          · exact iB j hj x1 x2 z
          · subst z
            exact absurd ⟨x1, x2⟩ hb
  obtain ⟨m, sz, hg, -, -, key2, w2, m2, sz2, r2, g2, iB⟩ := inv key w hr
  have q := (h.end_ (Nat.le_refl _) hg).mp hend
  apply hno key2 w2 r2
  exact (h.end_ he g2).mpr (fun j hj x1 x2 => iB j hj x1 x2 (q j hj x1 (by omega)))
/-! THE FIRST EVENT THAT BREAKS -/
def Brk (jd : Nat → Int32) (bks : Nat → Prop) (v : Int32) : Prop := (v = -1 ∧ ∀ e, bks e → jd e ≠ 0) ∨ ∃ e, v = nI e ∧ bks e ∧ jd e = 0 ∧ ∀ d, d < e → bks d → jd d ≠ 0
theorem Brk.eq {jd : Nat → Int32} {bks : Nat → Prop} {v v2 : Int32} (h : Brk jd bks v) (h2 : Brk jd bks v2) : v = v2 := by
  rcases h with ⟨a, b⟩ | ⟨e, a, b, c, d⟩
  · rcases h2 with ⟨a2, -⟩ | ⟨e2, -, b2, c2, -⟩
    · rw [a, a2]
    · exact absurd c2 (b e2 b2)
  · rcases h2 with ⟨-, b2⟩ | ⟨e2, a2, b2, c2, d2⟩
    · exact absurd c (b2 e b)
    · have : e = e2 := by
        rcases Nat.lt_trichotomy e e2 with q | q | q
        · exact absurd c (d2 e q b)
        · exact q
        · exact absurd c2 (d e2 q b2)
      rw [a, a2, this]
theorem rbrk_spec {t : Nat → Bool} {jd : Nat → Int32} : ∀ n e : Nat, (rbrk t jd n e = -1 ∧ ∀ d, e ≤ d → d < e + n → ¬ (t d = true ∧ jd d = 0)) ∨ ∃ d, e ≤ d ∧ d < e + n ∧ rbrk t jd n e = nI d ∧ t d = true ∧ jd d = 0 ∧ ∀ c, e ≤ c → c < d → ¬ (t c = true ∧ jd c = 0)
  | 0, e => Or.inl ⟨rfl, fun d h1 h2 => by omega⟩
  | n + 1, e => by
    simp only [rbrk]
    by_cases c : t e = true ∧ jd e = 0
    · rw [if_pos c]
      exact Or.inr ⟨e, Nat.le_refl _, by omega, rfl, c.1, c.2, fun c h1 h2 => by omega⟩
    · rw [if_neg c]
      rcases rbrk_spec (t := t) (jd := jd) n (e + 1) with ⟨a, b⟩ | ⟨d, a1, a2, a3, a4, a5, a6⟩
      · refine Or.inl ⟨a, fun d h1 h2 => ?_⟩
        rcases Nat.lt_or_ge e d with q | q
        · exact b d q (by omega)
        · have : d = e := by omega
          rw [this]; exact c
      · refine Or.inr ⟨d, by omega, by omega, a3, a4, a5, fun z h1 h2 => ?_⟩
        rcases Nat.lt_or_ge e z with q | q
        · exact a6 z q h2
        · have : z = e := by omega
          rw [this]; exact c
theorem EV.brk {R : Nat → Nat → Int32} {cnt ev : Nat} {ca ba : Nat → Nat} (h : EV R cnt ev ca ba) {N : Nat → Nat} {kind : Int32} : Brk (fun e => rjd R N kind cnt (nI e) 0) (fun e => 1 ≤ e ∧ ∃ i, i < cnt ∧ ba i = e) (brkR R N kind cnt ev) := by
  have h2 := h.2.1
  have tch : ∀ i, i < cnt → tchB R cnt (ba i) = true := fun i hi => by
    obtain ⟨-, a, -⟩ := h.2.2.1 i hi
    show decide _ = true
    rw [decide_eq_true_eq]
    intro q
    exact q i hi (Or.inr a)
  have inr : ∀ i, i < cnt → ba i ≤ ev := fun i hi => by
    obtain ⟨-, -, -, -, a⟩ := h.2.2.1 i hi
    omega
  unfold brkR
  rcases rbrk_spec (t := tchB R cnt) (jd := fun e => rjd R N kind cnt (nI e) 0) ev 1 with ⟨a, b⟩ | ⟨d, a1, a2, a3, a4, a5, a6⟩
  · refine Or.inl ⟨a, ?_⟩
    rintro e ⟨e1, i, i1, i2⟩ hj
    have := inr i i1
    exact b e e1 (by omega) ⟨by rw [← i2]; exact tch i i1, hj⟩
  · obtain ⟨d2, i, r1, r2, r3, r4, r5⟩ := h.back d (by omega) a5
    have hd : d2 = d := by
      rcases Nat.lt_or_ge d2 d with q | q
      · exact absurd ⟨by rw [← r4]; exact tch i r3, r5⟩ (a6 d2 r2 q)
      · omega
    subst hd
    refine Or.inr ⟨d2, a3, ⟨r2, i, r3, r4⟩, a5, ?_⟩
    rintro z hz ⟨z1, j, j1, j2⟩ hj
    exact a6 z z1 hz ⟨by rw [← j2]; exact tch j j1, hj⟩
