/-! WHAT CHANGES THE HISTORY -/
theorem HRM_od {I : MI} {m no np ev : Nat} {ow pl ca ba L cnt : Nat → Nat} (hH : HF no np ev ow pl ca ba L cnt) (hR : RM I m no np ev ow ca ba L cnt) (hev : ev < 2 ^ 20) {k : Nat} (hk : k < no) {E : Nat → Nat → Int32} {kind ret : Int32} {n e : Nat} (he : e < 2 ^ 30) (hO : OH E (rE I m L k) (Nf L k) kind ret n (cnt k) e (cF ca L k) (cF ba L k)) : OD E (rE I m L k) (Nf L k) kind ret n (cnt k) (nI e) := by
  obtain ⟨h1, h2, h3, h4, h5, h6, h7, h8, h9⟩ := hH
  obtain ⟨-, -, -, r4, -, r6⟩ := hR
  refine hO.od (fun i hi => ?_) he
  obtain ⟨x1, -, -⟩ := h5 k hk i hi
  obtain ⟨-, y2, y3⟩ := r6 _ x1
  have := h8 _ x1
  refine ⟨y2, y3, ?_, ?_, ?_⟩
  · show ca (L (16 * k + i)) < _
    omega
  · show ba (L (16 * k + i)) < _
    omega
  · show L (16 * k + i) < _
    omega
theorem jd_iff {E R R2 : Nat → Nat → Int32} {N N2 : Nat → Nat} {kind ret : Int32} {n c c2 : Nat} {u : Int32} (h : OD E R N kind ret n c u) (h2 : OD E R2 N2 kind ret n c2 u) : rjd R2 N2 kind c2 u 0 = 0 ↔ rjd R N kind c u 0 = 0 := by
  have e := (ans_brk h2 0).symm.trans (ans_brk h 0)
  by_cases p : rjd R2 N2 kind c2 u 0 = 0
  · by_cases q : rjd R N kind c u 0 = 0
    · exact ⟨fun _ => q, fun _ => p⟩
    · rw [if_pos p, if_neg q] at e
      exact absurd e (by decide)
  · by_cases q : rjd R N kind c u 0 = 0
    · rw [if_neg p, if_pos q] at e
      exact absurd e (by decide)
    · exact ⟨fun z => absurd z p, fun z => absurd z q⟩
section UP
variable {I I2 : MI} {J J2 : MJ} {m u k ev ev' n n' : Nat} {ca ba L ca' ba' L' : Nat → Nat}
theorem BK.ext (h : BK I m u k ev n ca ba L) (hn' : n ≤ n') (hn16 : n' ≤ 16) (e5 : I2 u 5 = I u 5) (e7 : I2 u 7 = I u 7) (e16 : I2 u 16 = I u 16) (e17 : I2 u 17 = I u 17) (e11 : I2 (u + 11) = I (u + 11)) (e12 : I2 (u + 12) = I (u + 12)) (e13 : I2 (u + 13) = I (u + 13)) (hE : ∀ i c, i < n → opE I2 u i c = opE I u i c) (hRR : ∀ i f, i < n → 4 ≤ f → f ≤ 9 → rE I2 m L' k i f = rE I m L k i f) (hc : ∀ i, i < n → cF ca' L' k i = cF ca L k i ∧ cF ba' L' k i = cF ba L k i) (hnew : ∀ i, n ≤ i → i < n' → ev < cF ca' L' k i ∧ cF ba' L' k i = 0) (hN : ∀ i j, i < n' → j < n' → (Nf L' k i < Nf L' k j ↔ i < j)) (hev : ev ≤ ev') (hev30 : ev < 2 ^ 30) (odO : ∀ {E : Nat → Nat → Int32} {kind ret : Int32} {n0 e : Nat}, e < 2 ^ 30 → OH E (rE I m L k) (Nf L k) kind ret n0 n e (cF ca L k) (cF ba L k) → OD E (rE I m L k) (Nf L k) kind ret n0 n (nI e)) (odN : ∀ {E : Nat → Nat → Int32} {kind ret : Int32} {n0 e : Nat}, e < 2 ^ 30 → OH E (rE I2 m L' k) (Nf L' k) kind ret n0 n' e (cF ca' L' k) (cF ba' L' k) → OD E (rE I2 m L' k) (Nf L' k) kind ret n0 n' (nI e)) : BK I2 m u k ev' n' ca' ba' L' := by
  obtain ⟨q, bl, bj, cn, b1, b2, b3, b4, b5, b6, b7, b8⟩ := h
  have hx : ∀ (E' : Nat → Nat → Int32) i, i < q → (∀ j c, j < n → E' j c = opE I u j c) → OH E' (rE I2 m L' k) (Nf L' k) (I u 5) (I (u + 13) i) (cn i) n' (cF ba L k (bj i)) (cF ca' L' k) (cF ba' L' k) := fun E' i hi hE' => by
    obtain ⟨c1, c2, c3, c4, c5, c6⟩ := b5 i hi
    have c61 := c6.1
    refine c6.ext (fun j c hj _ => hE' j c (by omega)) (fun j hj _ _ => hE' j 5 (by omega)) (fun j f hj f1 f2 => hRR j f (by omega) f1 (by omega)) (fun j hj _ _ => hRR j 9 (by omega) (by decide) (by decide)) hn' hn16 (fun j hj => (hc j hj).1) (fun j hj => Or.inl (hc j hj).2) (fun j j1 j2 => ?_) hN
    have := hnew j j1 j2
    exact ⟨by omega, this.2⟩
  have hb : ∀ i, i < q → cF ba' L' k (bj i) = cF ba L k (bj i) := fun i hi => (hc _ (b5 i hi).1).2
  refine ⟨q, bl, bj, cn, by rw [e7]; exact b1, by omega, by rw [e16]; exact b3, b4, fun i hi => ?_, fun i j hij hj => ?_, fun j hj hj0 => ?_, ?_⟩
  · obtain ⟨c1, c2, c3, c4, c5, c6⟩ := b5 i hi
    rw [hb i hi, e11, e12, e13, e5]
    exact ⟨by omega, c2, by omega, c4, c5, hx _ i hi hE⟩
  · rw [hb i (by omega), hb j hj]
    exact b6 i j hij hj
  · rcases Nat.lt_or_ge j n with z | z
    · exact b7 j z (by rw [← (hc j z).2]; exact hj0)
    · have := (hnew j z hj).2
      omega
  · rw [e17, e5]
    refine b8.congr (fun i hi => hb i (by omega)) (fun i hi => ?_)
    obtain ⟨c1, c2, c3, c4, c5, c6⟩ := b5 i (by omega)
    exact jd_iff (odO (by omega) c6) (odN (by omega) (hx _ i (by omega) (fun _ _ _ => rfl)))
/-- an object that the event doesn't touch -/
theorem CO.other (h : CO I J m u k ev n ca ba L) (hu : ∀ b, u ≤ b → b < u + 30 → I2 b = I b ∧ J2 b = J b) (h1 : I2 (m + 1) k = I (m + 1) k) (hRR : ∀ i f, i < n → 4 ≤ f → f ≤ 9 → rE I2 m L' k i f = rE I m L k i f) (hc : ∀ i, i < n → cF ca' L' k i = cF ca L k i ∧ cF ba' L' k i = cF ba L k i) (hL : ∀ i, i < n → L' (16 * k + i) = L (16 * k + i)) (hbe : ∀ i, i < n → cF ba L k i ≤ ev) (hev : ev ≤ ev') (hev30 : ev < 2 ^ 30) (odO : ∀ {E : Nat → Nat → Int32} {kind ret : Int32} {n0 e : Nat}, e < 2 ^ 30 → OH E (rE I m L k) (Nf L k) kind ret n0 n e (cF ca L k) (cF ba L k) → OD E (rE I m L k) (Nf L k) kind ret n0 n (nI e)) (odN : ∀ {E : Nat → Nat → Int32} {kind ret : Int32} {n0 e : Nat}, e < 2 ^ 30 → OH E (rE I2 m L' k) (Nf L' k) kind ret n0 n e (cF ca' L' k) (cF ba' L' k) → OD E (rE I2 m L' k) (Nf L' k) kind ret n0 n (nI e)) : CO I2 J2 m u k ev' n ca' ba' L' := by
  obtain ⟨o1, o2, o3, o4, o5⟩ := h
  have hn16 := o1.2.1
  have e0 : I2 u = I u := (hu u (Nat.le_refl _) (by omega)).1
  have hop : ∀ i c, i < 16 → opE I2 u i c = opE I u i c := fun i c hi => by show I2 _ _ = I _ _; rw [(hu _ (by omega) (by omega)).1]
  have hNe : ∀ i, i < n → Nf L' k i = Nf L k i := fun i hi => hL i hi
  have hN : ∀ i j, i < n → j < n → (Nf L' k i < Nf L' k j ↔ i < j) := fun i j hi hj => by rw [hNe i hi, hNe j hj]; exact o3.2.2.2.2.2.2.2.2.2.2 i j hi hj
  refine ⟨SI_mem (fun b b1 b2 => (hu b b1 b2).1) (fun b b1 b2 => (hu b b1 b2).2) o1, by rw [e0, h1]; exact o2, ?_, ?_, ?_⟩
  · rw [e0]
    exact o3.time hbe hev (fun i c hi => hop i c (by omega)) hRR hc hNe
  · rw [e0, ownR_congr hn16 hop]
    exact o4
  · exact o5.ext (Nat.le_refl _) hn16 (by rw [e0]) (by rw [e0]) (by rw [e0]) (by rw [e0]) (hu _ (by omega) (by omega)).1 (hu _ (by omega) (by omega)).1 (hu _ (by omega) (by omega)).1 (fun i c hi => hop i c (by omega)) hRR hc (fun i i1 i2 => by omega) hN hev hev30 odO odN
/-- the object that is called -/
theorem CO.call (h : CO I J m u k ev n ca ba L) (hn : n < 16) (h6 : I2 u 6 = nI (n + 1)) (h9 : I2 u 9 = 0) (h14 : I2 u 14 = 0) (e5 : I2 u 5 = I u 5) (e7 : I2 u 7 = I u 7) (e8 : I2 u 8 = I u 8) (e16 : I2 u 16 = I u 16) (e17 : I2 u 17 = I u 17) (e11 : I2 (u + 11) = I (u + 11)) (e12 : I2 (u + 12) = I (u + 12)) (e13 : I2 (u + 13) = I (u + 13)) (hE : ∀ i c, i < n → opE I2 u i c = opE I u i c) (h1 : I2 (m + 1) k = I (m + 1) k) (hRR : ∀ i f, i < n → 4 ≤ f → f ≤ 9 → rE I2 m L' k i f = rE I m L k i f) (hc : ∀ i, i < n → cF ca' L' k i = cF ca L k i ∧ cF ba' L' k i = cF ba L k i) (hcn : cF ca' L' k n = ev + 1) (hbn : cF ba' L' k n = 0) (hbe : ∀ i, i < n → cF ba L k i ≤ ev) (hO : OpR (opE I2 u) (rE I2 m L' k) (I u 5) n) (x6 : opE I2 u n 6 = I u 8) (x7 : opE I2 u n 7 = plsOf (fun i => opE I u i 0) (opE I2 u n 0) n) (hN : ∀ i j, i < n + 1 → j < n + 1 → (Nf L' k i < Nf L' k j ↔ i < j)) (hev30 : ev < 2 ^ 30) (odO : ∀ {E : Nat → Nat → Int32} {kind ret : Int32} {n0 e : Nat}, e < 2 ^ 30 → OH E (rE I m L k) (Nf L k) kind ret n0 n e (cF ca L k) (cF ba L k) → OD E (rE I m L k) (Nf L k) kind ret n0 n (nI e)) (odN : ∀ {E : Nat → Nat → Int32} {kind ret : Int32} {n0 e : Nat}, e < 2 ^ 30 → OH E (rE I2 m L' k) (Nf L' k) kind ret n0 (n + 1) e (cF ca' L' k) (cF ba' L' k) → OD E (rE I2 m L' k) (Nf L' k) kind ret n0 (n + 1) (nI e)) : CO I2 J2 m u k (ev + 1) (n + 1) ca' ba' L' := by
  obtain ⟨o1, o2, o3, o4, o5⟩ := h
  refine ⟨⟨h6, by omega, Or.inl h9, fun q => ?_⟩, by rw [e5, h1]; exact o2, ?_, Or.inl h14, ?_⟩
  · rw [h9] at q; exact absurd q (by decide)
  · rw [e5, e8]
    exact o3.add hn hbe (by omega) hE hRR hc hcn hbn hO x6 x7 hN
  · refine o5.ext (by omega) (by omega) e5 e7 e16 e17 e11 e12 e13 hE hRR hc (fun i i1 i2 => ?_) hN (by omega) hev30 odO odN
    have : i = n := by omega
    rw [this, hcn, hbn]
    exact ⟨by omega, rfl⟩
/-- the object that is come back to -/
theorem CO.back (h : CO I J m u k ev n ca ba L) {z : Nat} {res : Int32} (hz : z < n) (hz0 : cF ba L k z = 0) (h6 : I2 u 6 = I u 6) (h9 : I2 u 9 = 0) (h14 : I2 u 14 = 0) (e5 : I2 u 5 = I u 5) (e16 : I2 u 16 = I u 16) (e17 : I2 u 17 = I u 17) (x8 : I2 u 8 = I u 8 ||| jish 1 (nI z)) (hq : ∃ q, I u 7 = nI q ∧ q < n ∧ I2 u 7 = nI (q + 1) ∧ (∀ i, i ≠ q → I2 (u + 11) i = I (u + 11) i ∧ I2 (u + 12) i = I (u + 12) i ∧ I2 (u + 13) i = I (u + 13) i) ∧ I2 (u + 11) q = nI (ev + 1) ∧ I2 (u + 12) q = nI n ∧ I2 (u + 13) q = I u 8 ||| jish 1 (nI z)) (hE : ∀ i c, i < 16 → c ≠ 5 ∨ i ≠ z → opE I2 u i c = opE I u i c) (hE5 : opE I2 u z 5 = res) (h1 : I2 (m + 1) k = I (m + 1) k) (hRR : ∀ i f, i < n → 4 ≤ f → f ≤ 9 → f ≠ 9 ∨ i ≠ z → rE I2 m L k i f = rE I m L k i f) (hR9 : rE I2 m L k z 9 = res) (hb : ∀ i, i < n → i ≠ z → cF ba' L k i = cF ba L k i) (hbz : cF ba' L k z = ev + 1) (hbe : ∀ i, i < n → cF ba L k i ≤ ev ∧ cF ca L k i ≤ ev) (hev30 : ev + 1 < 2 ^ 30) (odO : ∀ {E : Nat → Nat → Int32} {kind ret : Int32} {n0 e : Nat}, e < 2 ^ 30 → OH E (rE I m L k) (Nf L k) kind ret n0 n e (cF ca L k) (cF ba L k) → OD E (rE I m L k) (Nf L k) kind ret n0 n (nI e)) (odN : ∀ {E : Nat → Nat → Int32} {kind ret : Int32} {n0 e : Nat}, e < 2 ^ 30 → OH E (rE I2 m L k) (Nf L k) kind ret n0 n e (cF ca L k) (cF ba' L k) → OD E (rE I2 m L k) (Nf L k) kind ret n0 n (nI e)) : CO I2 J2 m u k (ev + 1) n ca ba' L := by
  obtain ⟨o1, o2, o3, o4, o5⟩ := h
  have hn16 := o1.2.1
  have hnow : OH (opE I2 u) (rE I2 m L k) (Nf L k) (I u 5) (I u 8 ||| jish 1 (nI z)) n n (ev + 1) (cF ca L k) (cF ba' L k) := o3.ret (fun i hi => (hbe i hi).1) hz (fun i c hi hc => hE i c (by omega) hc) hRR (by rw [hE5, hR9]) (fun _ _ => rfl) hb hbz hz0 (fun _ _ => rfl)
  refine ⟨⟨by rw [h6]; exact o1.1, hn16, Or.inl h9, fun q => ?_⟩, by rw [e5, h1]; exact o2, by rw [e5, x8]; exact hnow, Or.inl h14, ?_⟩
  · rw [h9] at q; exact absurd q (by decide)
  · obtain ⟨q, bl, bj, cn, b1, b2, b3, b4, b5, b6, b7, b8⟩ := o5
    obtain ⟨q', y1, y2, y3, y4, y5, y6, y7⟩ := hq
    have eqq : q' = q := by
      rw [b1] at y1
      exact ((nI_eq (by omega) (by omega)).mp y1).symm
    subst eqq
    have hbj : ∀ i, i < q' → bj i ≠ z := fun i hi e => by
      have := (b5 i hi).2.1
      rw [e, hz0] at this
      omega
    have hba : ∀ i, i < q' → cF ba' L k (bj i) = cF ba L k (bj i) := fun i hi => hb _ (b5 i hi).1 (hbj i hi)
    have hx : ∀ (E' : Nat → Nat → Int32) i, i < q' → (∀ j c, j < n → c ≠ 5 ∨ j ≠ z → E' j c = opE I u j c) → OH E' (rE I2 m L k) (Nf L k) (I u 5) (I (u + 13) i) (cn i) n (cF ba L k (bj i)) (cF ca L k) (cF ba' L k) := fun E' i hi hE' => by
      obtain ⟨c1, c2, c3, c4, c5, c6⟩ := b5 i hi
      have c61 := c6.1
      refine c6.ext (fun j c hj hc => hE' j c (by omega) (Or.inl hc)) (fun j hj p1 p2 => hE' j 5 (by omega) (Or.inr (fun e => ?_))) (fun j f hj f1 f2 => hRR j f (by omega) f1 (by omega) (Or.inl (by omega))) (fun j hj p1 p2 => hRR j 9 (by omega) (by decide) (by decide) (Or.inr (fun e => ?_))) (Nat.le_refl _) hn16 (fun _ _ => rfl) (fun j hj => ?_) (fun j j1 j2 => by omega) o3.2.2.2.2.2.2.2.2.2.2
      · rw [e, hz0] at p1; omega
      · rw [e, hz0] at p1; omega
      · by_cases w : j = z
        · right
          rw [w, hz0, hbz]
          exact ⟨rfl, by omega, fun y hy => by have := (hbe y hy).2; omega⟩
        · exact Or.inl (hb j hj w)
    have u1 : ∀ (f : Nat → Nat) (v : Nat), upF f q' v q' = v := fun f v => by unfold upF; rw [if_pos rfl]
    have u2 : ∀ (f : Nat → Nat) (v i : Nat), i < q' → upF f q' v i = f i := fun f v i hi => by unfold upF; rw [if_neg (by omega)]
    refine ⟨q' + 1, bl, upF bj q' z, upF cn q' n, y3, by omega, by rw [e16]; exact b3, by omega, fun i hi => ?_, fun i j hij hj => ?_, fun j hj hj0 => ?_, ?_⟩
    · rcases Nat.lt_succ_iff_lt_or_eq.mp hi with w | w
      · obtain ⟨c1, c2, c3, c4, c5, c6⟩ := b5 i w
        rw [u2 _ _ _ w, u2 _ _ _ w, hba i w, (y4 i (by omega)).1, (y4 i (by omega)).2.1, (y4 i (by omega)).2.2, e5]
        exact ⟨c1, c2, by omega, c4, c5, hx _ i w (fun j c hj hc => hE j c (by omega) hc)⟩
      · subst w
        rw [u1, u1, hbz, y5, y6, y7, e5]
        exact ⟨hz, by omega, by omega, rfl, rfl, hnow⟩
    · rcases Nat.lt_succ_iff_lt_or_eq.mp hj with w | w
      · rw [u2 _ _ _ (by omega), u2 _ _ _ w, hba i (by omega), hba j w]
        exact b6 i j hij w
      · subst w
        rw [u1, u2 _ _ _ hij, hba i hij, hbz]
        have := (b5 i hij).2.2.1
        omega
    · by_cases w : j = z
      · exact ⟨q', by omega, by rw [u1, w]⟩
      · rw [hb j hj w] at hj0
        obtain ⟨i, i1, i2⟩ := b7 j hj hj0
        exact ⟨i, by omega, by rw [u2 _ _ _ i1]; exact i2⟩
    · rw [e17, e5]
      refine b8.congr (fun i hi => ?_) (fun i hi => ?_)
      · show cF ba' L k (upF bj q' z i) = _
        rw [u2 _ _ _ (by omega), hba i (by omega)]
      · obtain ⟨c1, c2, c3, c4, c5, c6⟩ := b5 i (by omega)
        exact jd_iff (odO (by omega) c6) (odN (by omega) (hx _ i (by omega) (fun _ _ _ _ => rfl)))
/-- how many have come back: one that hasn't leaves room -/
theorem CO.room (h : CO I J m u k ev n ca ba L) {z : Nat} (hz : z < n) (hz0 : cF ba L k z = 0) : ∃ q, I u 7 = nI q ∧ q < n := by
  obtain ⟨o1, o2, o3, o4, q, bl, bj, cn, b1, b2, b3, b4, b5, b6, b7, b8⟩ := h
  refine ⟨q, b1, ?_⟩
  have := pigeon (q + 1) n (fun i => if i < q then bj i else z) (fun i hi => by
    show (if i < q then bj i else z) < n
    split
    · rename_i w; exact (b5 i w).1
    · exact hz) (fun i j hij hj => by
    show (if i < q then bj i else z) ≠ if j < q then bj j else z
    rw [if_pos (show i < q by omega)]
    by_cases w : j < q
    · rw [if_pos w]
      intro e
      have := b6 i j hij w
      rw [e] at this
      omega
    · rw [if_neg w]
      intro e
      have := (b5 i (by omega)).2.1
      rw [e, hz0] at this
      omega)
  omega
theorem RC.new {no np ev : Nat} {ow pl L cnt : Nat → Nat} (h1 : ∀ k, k < no → I2 (m + 2) k = nI (cnt k) ∧ cnt k ≤ 16) (hno : no ≤ 6) (h2 : ∀ j, j < 6 → I2 (m + 17) j = 0 ∧ I2 (m + 23) j = 0) (h3 : I2 m 30 = 0) : RC I2 J2 m no np ev ow pl L cnt := ⟨fun k hk => ⟨⟨(h1 k hk).1, (h1 k hk).2, Or.inl (h2 k (by omega)).1, fun q => by rw [(h2 k (by omega)).1] at q; exact absurd q (by decide)⟩, Or.inl (h2 k (by omega)).2⟩, Or.inl h3⟩
end UP
