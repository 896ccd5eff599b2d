/-! THE QUERIES, in the one memory -/
theorem ST.dis {g : GM} {a ns : Nat} {sb : Nat → Nat} (h : ST g a ns sb) {k j : Nat} (hk : k < ns) (hj : j < ns) (hne : k ≠ j) : sb k + 30 ≤ sb j ∨ sb j + 30 ≤ sb k := by
  obtain ⟨-, -, -, -, -, -, a7, -⟩ := h
  rcases Nat.lt_or_ge k j with q | q
  · exact Or.inl (a7 k j q hj)
  · exact Or.inr (a7 j k (by omega) hk)
theorem ST.lo {g : GM} {a ns : Nat} {sb : Nat → Nat} (h : ST g a ns sb) {k : Nat} (hk : k < ns) : a + 46 ≤ sb k := (h.2.2.2.2.2.1 k hk).2.2.1
theorem ST.sub {g : GM} {a ns : Nat} {sb : Nat → Nat} (h : ST g a ns sb) {k : Nat} (hk : k < ns) : subQ g a k (sb k) := by
  obtain ⟨c1, c2, c3, c4⟩ := h.2.2.2.2.2.1 k hk
  exact ⟨c1, c2, by omega⟩
theorem ST.subW {g : GM} {a ns no : Nat} {sb : Nat → Nat} (h : ST g a ns sb) (hno : no ≤ ns) : SubW g a no sb := ⟨by have := h.2.2.2.2.1; omega, fun k hk => h.sub (by omega), fun k j hkj hj => h.2.2.2.2.2.2.1 k j hkj (by omega)⟩
section QJ
variable {g : GM} {I I2 : MI} {J J2 : MJ} {a no np ev ns : Nat} {ow pl ca ba L cnt sb : Nat → Nat}
theorem JV.rowsame (h : JV g I J a no np ev ns ow pl ca ba L cnt sb) (e0 : I2 a = I a) (h4 : J2 (a + 4) = J (a + 4)) (h15 : I2 (a + 15) = I (a + 15)) (h16 : I2 (a + 16) = I (a + 16)) (hop : ∀ k, k < no → (∀ i q, i < 16 → opE I2 (sb k) i q = opE I (sb k) i q) ∧ I2 (sb k) 5 = I (sb k) 5 ∧ I2 (sb k) 8 = I (sb k) 8) : I2 a 10 = 0 ∨ I2 a 10 = 1 ∧ CRow I2 J2 a no np ow pl cnt sb := by
  rw [e0]
  rcases h.2.2.2.2.2.2.2 with q | ⟨q, r⟩
  · exact Or.inl q
  · exact Or.inr ⟨q, r.reg hop h4 (by rw [e0]) h15 h16⟩
/-- one object's cells and the spare walk's have changed -/
theorem JV.obj (h : JV g I J a no np ev ns ow pl ca ba L cnt sb) {k : Nat} (hk : k < no) (hf : ∀ b, (b < sb k ∨ sb k + 30 ≤ b) → (b < a + 6 ∨ a + 15 ≤ b) → I2 b = I b ∧ J2 b = J b) (hop : ∀ i q, i < 16 → opE I2 (sb k) i q = opE I (sb k) i q) (e5 : I2 (sb k) 5 = I (sb k) 5) (e8 : I2 (sb k) 8 = I (sb k) 8) (hO : CO I2 J2 (a + 18) (sb k) k ev (cnt k) ca ba L) : JV g I2 J2 a no np ev ns ow pl ca ba L cnt sb ∧ ∀ b, b < a → I2 b = I b := by
  have hS := h.1
  have hns := h.2.1
  have hlo := hS.lo (show k < ns by omega)
  have fr : ∀ b, b < sb k → (b < a + 6 ∨ a + 15 ≤ b) → I2 b = I b ∧ J2 b = J b := fun b b1 b2 => hf b (Or.inl b1) b2
  have oth : ∀ j, j < no → j ≠ k → ∀ b, sb j ≤ b → b < sb j + 30 → I2 b = I b ∧ J2 b = J b := fun j hj hne b b1 b2 => by
    have := hS.dis (show j < ns by omega) (show k < ns by omega) hne
    have := hS.lo (show j < ns by omega)
    exact hf b (by omega) (by omega)
  refine ⟨h.cls (fun b b1 b2 => fr b (by omega) (by omega)) (by rw [(fr a (by omega) (by omega)).1]) (by rw [(fr a (by omega) (by omega)).1]) (by rw [(fr a (by omega) (by omega)).1]) (by rw [(fr a (by omega) (by omega)).2]) (fr (a + 2) (by omega) (by omega)).1 (fr (a + 3) (by omega) (by omega)).1 (fr (a + 4) (by omega) (by omega)).2 (fr (a + 5) (by omega) (by omega)).1 (fun j hj => ?_) ?_, fun b hb => (fr b (by omega) (by omega)).1⟩
  · by_cases q : j = k
    · rw [q]; exact hO
    · exact (h.2.2.2.2.2.2.1 j hj).same (oth j hj q) (fun c c1 c2 => (fr _ (by omega) (by omega)).1)
  · refine h.rowsame (fr a (by omega) (by omega)).1 (fr (a + 4) (by omega) (by omega)).2 (fr (a + 15) (by omega) (by omega)).1 (fr (a + 16) (by omega) (by omega)).1 (fun j hj => ?_)
    by_cases q : j = k
    · rw [q]; exact ⟨hop, e5, e8⟩
    · exact ⟨fun i z hi => by show I2 _ _ = I _ _; rw [(oth j hj q _ (by omega) (by omega)).1], by rw [(oth j hj q _ (Nat.le_refl _) (by omega)).1], by rw [(oth j hj q _ (Nat.le_refl _) (by omega)).1]⟩
theorem JV.learn (h : JV g I J a no np ev ns ow pl ca ba L cnt sb) {k : Nat} (hk : k < no) {g2 : GM} {v : Option Value} (hq : lrnQ g I J (sb k) (a + 6) (cnt k) v g2 I2 J2) : g2 = g ∧ JV g I2 J2 a no np ev ns ow pl ca ba L cnt sb ∧ (∀ b, b < a → I2 b = I b) ∧ I2 (sb k) 9 = 1 ∧ lsame (sb k) I J I2 J2 := by
  have hlo := h.1.lo (show k < ns by have := h.2.1; omega)
  have hO := h.2.2.2.2.2.2.1 k hk
  obtain ⟨s1, s2', s3, s4⟩ := lrn_SI hO.1 (Or.inl (by omega)) hq
  obtain ⟨r1, r2⟩ := h.obj hk (fun b b1 b2 => s4 b b1 (by omega)) s3.op (s3.1 5 (by decide) (by decide) (by decide) (by decide)) (s3.1 8 (by decide) (by decide) (by decide) (by decide)) (hO.ls s1 s3 (fun c c1 c2 => (s4 _ (by omega) (by omega)).1))
  exact ⟨hq.2.1, r1, r2, s2', s3⟩
theorem fndS_u {E : Nat → Nat → Int32} {kind ret : Int32} {n u : Nat} {I I2 : MI} {J J2 : MJ} (h1 : ∀ b, u < b → b < u + 11 → I2 b = I b) (h2 : ∀ b, u ≤ b → b < u + 11 → J2 b = J b) (e10 : I2 u 10 = I u 10) (e11 : I2 u 11 = I u 11) (e13 : I2 u 13 = I u 13) (hf : fndS E kind ret n u I J) : fndS E kind ret n u I2 J2 := by
  have e2 := h2 u (by omega) (by omega)
  have e3 := h1 (u + 2) (by omega) (by omega)
  have e4 := h1 (u + 2 + 8) (by omega) (by omega)
  unfold fndS at hf ⊢
  rw [e10, e11, e13, e2, e3, e4]
  rcases hf with hf | ⟨X, g1, g2, g3, g4, g5, g6, g7⟩
  · exact Or.inl hf
  · refine Or.inr ⟨X, g1, g2, g3, g4, g5, ⟨g6.1.off (fun b b1 b2 => h1 b (by omega) (by omega)) (h2 _ (by omega) (by omega)), ?_⟩, g7⟩
    rw [h1 (u + 2 + 1 + 1) (by omega) (by omega), h2 (u + 2 + 1 + 2) (by omega) (by omega), h2 (u + 2 + 7) (by omega) (by omega)]
    exact g6.2
theorem SI_u {I I2 : MI} {J J2 : MJ} {u n : Nat} (h1 : ∀ b, u < b → b < u + 30 → I2 b = I b) (h2 : ∀ b, u ≤ b → b < u + 30 → J2 b = J b) (hk : ∀ c, c < 14 → I2 u c = I u c) (h : SI I J u n) : SI I2 J2 u n := by
  obtain ⟨a1, a2, a3, a4⟩ := h
  refine ⟨by rw [hk 6 (by decide)]; exact a1, a2, by rw [hk 9 (by decide)]; exact a3, fun h9 => ?_⟩
  rw [hk 9 (by decide)] at h9
  rw [hk 5 (by decide), hk 8 (by decide)]
  exact fndS_u (fun b b1 b2 => h1 b b1 (by omega)) (fun b b1 b2 => h2 b b1 (by omega)) (hk 10 (by decide)) (hk 11 (by decide)) (hk 13 (by decide)) (fndS_congr a2 (fun i k hi => by show I2 _ _ = I _ _; rw [h1 _ (by omega) (by omega)]) (a4 h9))
theorem JV.own (h : JV g I J a no np ev ns ow pl ca ba L cnt sb) {k : Nat} (hk : k < no) {g2 : GM} {v : Option Value} (hq : lroQ g I J (sb k) (a + 6) (cnt k) v g2 I2 J2) : g2 = g ∧ JV g I2 J2 a no np ev ns ow pl ca ba L cnt sb ∧ (∀ b, b < a → I2 b = I b) ∧ I2 (sb k) 15 = ownR (opE I2 (sb k)) (I2 (sb k) 5) (I2 (sb k) 8) (cnt k) := by
  have hlo := h.1.lo (show k < ns by have := h.2.1; omega)
  obtain ⟨o1, o2, o3, o4, o5⟩ := h.2.2.2.2.2.2.1 k hk
  obtain ⟨-, rfl, hq⟩ := hq
  rcases hq with ⟨q1, rfl, rfl⟩ | ⟨q0, q1, q2, q3, q4, q5⟩
  · refine ⟨rfl, h, fun _ _ => rfl, ?_⟩
    rcases o4 with o4 | o4
    · exact absurd o4 q1
    · exact o4.2
  · have fr : ∀ b, b ≠ sb k → (b < a + 6 ∨ a + 15 ≤ b) → I2 b = I b ∧ J2 b = J b := fun b b1 b2 => ⟨q4 b b1 (by omega), q5 b (by omega)⟩
    have hop : ∀ i q, i < 16 → opE I2 (sb k) i q = opE I (sb k) i q := fun i q hi => by show I2 _ _ = I _ _; rw [(fr _ (by omega) (by omega)).1]
    have hm : ∀ c, 1 ≤ c → c ≤ 11 → I2 (a + 18 + c) = I (a + 18 + c) := fun c c1 c2 => (fr _ (by omega) (by omega)).1
    have hR : eqR (rE I (a + 18) L k) (rE I2 (a + 18) L k) := eqR_mem (fun f f1 f2 => hm f (by omega) f2)
    have hown : I2 (sb k) 15 = ownR (opE I2 (sb k)) (I2 (sb k) 5) (I2 (sb k) 8) (cnt k) := by
      rw [q2, q3 5 (by decide) (by decide), q3 8 (by decide) (by decide), ownR_congr o1.2.1 hop]
    have hO : CO I2 J2 (a + 18) (sb k) k ev (cnt k) ca ba L := by
      refine ⟨SI_u (fun b b1 b2 => (fr b (by omega) (by omega)).1) (fun b b1 b2 => q5 b (by omega)) (fun c hc => q3 c (by omega) (by omega)) o1, by rw [q3 5 (by decide) (by decide), hm 1 (by decide) (by decide)]; exact o2, ?_, Or.inr ⟨q1, hown⟩, o5.reg (q3 5 (by decide) (by decide)) (q3 7 (by decide) (by decide)) (q3 16 (by decide) (by decide)) (q3 17 (by decide) (by decide)) (fr _ (by omega) (by omega)).1 (fr _ (by omega) (by omega)).1 (fr _ (by omega) (by omega)).1 hop hm⟩
      rw [q3 5 (by decide) (by decide), q3 8 (by decide) (by decide)]
      exact o3.same hop hR
    obtain ⟨r1, r2⟩ := h.obj hk (fun b b1 b2 => fr b (by omega) b2) hop (q3 5 (by decide) (by decide)) (q3 8 (by decide) (by decide)) hO
    exact ⟨rfl, r1, r2, hown⟩
theorem CO.bl {m u k n : Nat} (h : CO I J m u k ev n ca ba L) : ∃ (q bl : Nat) (cn : Nat → Nat), I u 7 = nI q ∧ q ≤ 16 ∧ I u 16 = nI bl ∧ bl ≤ q ∧ ∀ i, i < q → I (u + 12) i = nI (cn i) ∧ cn i ≤ 16 := by
  obtain ⟨o1, -, -, -, q, bl, bj, cn, b1, b2, b3, b4, b5, -⟩ := h
  have := o1.2.1
  refine ⟨q, bl, cn, b1, by omega, b3, b4, fun i hi => ?_⟩
  obtain ⟨-, -, -, -, c5, c6⟩ := b5 i hi
  have := c6.1
  exact ⟨c5, by omega⟩
theorem JV.brk (h : JV g I J a no np ev ns ow pl ca ba L cnt sb) (hev : ev < 2 ^ 20) {k : Nat} (hk : k < no) {q bl : Nat} {cn : Nat → Nat} (hq7 : I (sb k) 7 = nI q) (hq16 : q ≤ 16) (hbl : I (sb k) 16 = nI bl) (hbl2 : bl ≤ q) (hcn : ∀ i, i < q → I (sb k + 12) i = nI (cn i) ∧ cn i ≤ 16) {g2 : GM} {v : Option Value} (hq : lrbQ g I J (sb k) (a + 6) (cnt k) q bl cn v g2 I2 J2) : g2 = g ∧ JV g I2 J2 a no np ev ns ow pl ca ba L cnt sb ∧ (∀ b, b < a → I2 b = I b) ∧ I2 (sb k) 17 = brkR (rE I2 (a + 18) L k) (Nf L k) (I2 (a + 18 + 1) k) (cnt k) ev := by
  have hlo := h.1.lo (show k < ns by have := h.2.1; omega)
  obtain ⟨-, rfl, I1, J1, fr, hl, efr, e17, e16, eu, eI, eJ⟩ := hq
  obtain ⟨-, h1, hb1, hlrn, hls⟩ := h.learn hk hl
  obtain ⟨o1, o2, o3, o4, o5⟩ := h1.2.2.2.2.2.2.1 k hk
  obtain ⟨hod, hEV⟩ := h1.od hev hk
  obtain ⟨q', bl', bj, cn', b1, b2, b3, b4, b5, b6, b7, b8⟩ := o5
  have hn16 := o1.2.1
  have s7 : I1 (sb k) 7 = I (sb k) 7 := hls.1 7 (by decide) (by decide) (by decide) (by decide)
  have s16 : I1 (sb k) 16 = I (sb k) 16 := hls.1 16 (by decide) (by decide) (by decide) (by decide)
  have s17 : I1 (sb k) 17 = I (sb k) 17 := hls.1 17 (by decide) (by decide) (by decide) (by decide)
  have s5 : I1 (sb k) 5 = I (sb k) 5 := hls.1 5 (by decide) (by decide) (by decide) (by decide)
  have eq' : q' = q := by
    rw [s7, hq7] at b1
    exact ((nI_eq (by omega) (by omega)).mp b1).symm
  subst eq'
  have ebl : bl' = bl := by
    rw [s16, hbl] at b3
    exact ((nI_eq (by omega) (by omega)).mp b3).symm
  subst ebl
  have s11 : I1 (sb k + 11) = I (sb k + 11) := hls.2 _ (by omega) (by omega) (by omega)
  have s12 : I1 (sb k + 12) = I (sb k + 12) := hls.2 _ (by omega) (by omega) (by omega)
  have s13 : I1 (sb k + 13) = I (sb k + 13) := hls.2 _ (by omega) (by omega) (by omega)
  have ecn : ∀ i, i < q' → cn i = cn' i := fun i hi => by
    obtain ⟨-, -, -, -, c5, c6⟩ := b5 i hi
    have := (hcn i hi).1
    rw [← s12, c5] at this
    have := c6.1
    exact ((nI_eq (by omega) (by have := (hcn i hi).2; omega)).mp (by assumption)).symm
  -- what each coming back left
  have hbk : ∀ i, i < q' → brkAt (opE I (sb k)) (I (sb k) 5) (I (sb k + 13) i) (cn i) (I (sb k + 11) i) = if rjd (rE I1 (a + 18) L k) (Nf L k) (I1 (sb k) 5) (cnt k) (nI (cF ba L k (bj i))) 0 = 0 then nI (cF ba L k (bj i)) else -1 := fun i hi => by
    obtain ⟨c1, c2, c3, c4, c5, c6⟩ := b5 i hi
    have hO2 := hod (by omega) (c6.same (fun j z hj => (hls.op j z hj).symm) (fun f _ _ => rfl))
    rw [← c4, s11, ← ecn i hi, s13, s5] at *
    exact ans_brk hO2 _
  have hCB : CBk (fun e => rjd (rE I1 (a + 18) L k) (Nf L k) (I1 (sb k) 5) (cnt k) (nI e) 0) (fun i => cF ba L k (bj i)) q' (I2 (sb k) 17) := by
    rw [e17, ← s17]
    by_cases c : I1 (sb k) 11 = 1
    · rw [if_pos c] at efr
      rw [efr, Nat.sub_self]
      show CBk _ _ _ (I1 (sb k) 17)
      have hj : rjd (rE I1 (a + 18) L k) (Nf L k) (I1 (sb k) 5) (cnt k) (nI ev) 0 = 1 := by
        have := fndS_j (o1.2.2.2 hlrn)
        rw [c] at this
        rw [← ans_jP (hod (by omega) o3)]
        exact this.symm
      have hno : ∀ i, i < q' → rjd (rE I1 (a + 18) L k) (Nf L k) (I1 (sb k) 5) (cnt k) (nI (cF ba L k (bj i))) 0 ≠ 0 := fun i hi => by
        obtain ⟨c1, c2, c3, -⟩ := b5 i hi
        exact hEV.cut hj c3
      rcases b8 with ⟨x, -⟩ | ⟨i, i1, i2, i3, -⟩
      · exact Or.inl ⟨x, hno⟩
      · exact absurd i3 (hno i (by omega))
    · rw [if_neg c] at efr
      rw [efr]
      refine CBk.run (be := fun i => cF ba L k (bj i)) hbk (fun i hi => ?_) (q' - bl') bl' _ (by omega) b8
      have := (b5 i hi).2.2.1
      omega
  have fr2 : ∀ b, b ≠ sb k → (b < a + 6 ∨ a + 15 ≤ b) → I2 b = I1 b ∧ J2 b = J1 b := fun b p1 p2 => ⟨eI b p1 (by omega), eJ b (by omega)⟩
  have hop : ∀ i q, i < 16 → opE I2 (sb k) i q = opE I1 (sb k) i q := fun i q hi => by show I2 _ _ = I1 _ _; rw [(fr2 _ (by omega) (by omega)).1]
  have hm : ∀ c, 1 ≤ c → c ≤ 11 → I2 (a + 18 + c) = I1 (a + 18 + c) := fun c c1 c2 => (fr2 _ (by omega) (by omega)).1
  have hR : eqR (rE I1 (a + 18) L k) (rE I2 (a + 18) L k) := eqR_mem (fun f f1 f2 => hm f (by omega) f2)
  have u5 : I2 (sb k) 5 = I1 (sb k) 5 := eu 5 (by decide) (by decide)
  have hO : CO I2 J2 (a + 18) (sb k) k ev (cnt k) ca ba L := by
    refine ⟨SI_u (fun b p1 p2 => (fr2 b (by omega) (by omega)).1) (fun b p1 p2 => eJ b (by omega)) (fun c hc => eu c (by omega) (by omega)) o1, by rw [u5, hm 1 (by decide) (by decide)]; exact o2, ?_, ?_, ?_⟩
    · rw [u5, eu 8 (by decide) (by decide)]
      exact o3.same hop hR
    · rw [eu 14 (by decide) (by decide), eu 15 (by decide) (by decide), u5, eu 8 (by decide) (by decide), ownR_congr hn16 hop]
      exact o4
    · refine ⟨q', q', bj, cn', by rw [eu 7 (by decide) (by decide)]; exact b1, b2, e16, Nat.le_refl _, fun i hi => ?_, b6, b7, ?_⟩
      · obtain ⟨c1, c2, c3, c4, c5, c6⟩ := b5 i hi
        rw [(fr2 (sb k + 11) (by omega) (by omega)).1, (fr2 (sb k + 12) (by omega) (by omega)).1, (fr2 (sb k + 13) (by omega) (by omega)).1, u5]
        exact ⟨c1, c2, c3, c4, c5, c6.same hop hR⟩
      · rw [u5]
        exact hCB.congr (fun _ _ => rfl) (fun i _ => by rw [rjd_congr hR])
  obtain ⟨r1, r2⟩ := h1.obj hk (fun b p1 p2 => fr2 b (by omega) p2) hop u5 (eu 8 (by decide) (by decide)) hO
  refine ⟨rfl, r1, fun b hb => (r2 b hb).trans (hb1 b hb), ?_⟩
  have hs := hCB.spec (bks := fun e => 1 ≤ e ∧ ∃ i, i < cnt k ∧ cF ba L k i = e) (fun e => by
    constructor
    · rintro ⟨x1, i, i1, i2⟩
      obtain ⟨z, z1, z2⟩ := b7 i i1 (by omega)
      exact ⟨z, z1, by show cF ba L k (bj z) = e; rw [z2]; exact i2⟩
    · rintro ⟨z, z1, z2⟩
      obtain ⟨c1, c2, -⟩ := b5 z z1
      have z2 : cF ba L k (bj z) = e := z2
      exact ⟨by omega, bj z, c1, z2⟩) b6
  have hr := hEV.brk (N := Nf L k) (kind := I1 (sb k) 5)
  rw [hs.eq hr, brkR_congr hR, hm 1 (by decide) (by decide), ← o2]
/-! the reference's side -/
theorem MK.gen {I I2 : MI} {J J2 : MJ} {m k c : Nat} {L : Nat → Nat} (h : MK I J m k c L) (h1 : ∀ z, 1 ≤ z → z ≤ 11 → I2 (m + z) = I (m + z)) (e15 : I2 m 15 = I m 15) (e17 : I2 (m + 17) k = I (m + 17) k) (e18 : I2 (m + 18) k = I (m + 18) k) (e19 : I2 (m + 19) k = I (m + 19) k) (e21 : I2 (m + 21) k = I (m + 21) k) (e20 : J2 (m + 20) k = J (m + 20) k) (h13 : ∀ i, 2001 * k ≤ i → i < 2001 * k + 2000 → I2 (m + 13) i = I (m + 13) i ∧ J2 (m + 14) i = J (m + 14) i) : MK I2 J2 m k c L := by
  obtain ⟨a1, a2, a3, a4⟩ := h
  refine ⟨by rw [h1 2 (by decide) (by decide)]; exact a1, a2, by rw [e17]; exact a3, fun hk => ?_⟩
  rw [e17] at hk
  rw [h1 1 (by decide) (by decide), e15]
  exact rfnd_congr (eqR_mem (fun f f1 f2 => h1 f (by omega) f2)) (rfnd_mem a2 e18 e19 e21 e20 h13 (a4 hk))
theorem JV.m0 (h : JV g I J a no np ev ns ow pl ca ba L cnt sb) (z : Int32) : JV g (s2 I (a + 18) 0 z) J a no np ev ns ow pl ca ba L cnt sb := by
  have o : ∀ b, b ≠ a + 18 → s2 I (a + 18) 0 z b = I b := fun b hb => s2_off hb
  refine h.ref (fun b hb => ⟨o b (by omega), rfl⟩) (fun c c1 c2 => o _ (by omega)) (s2_k (by decide)) (s2_k (by decide)) (s2_k (by decide)) ?_
  obtain ⟨r1, r2⟩ := h.2.2.2.2.1
  refine ⟨fun k hk => ⟨MK_s2 0 z (by decide) (r1 k hk).1, ?_⟩, ?_⟩
  · rw [o _ (by omega), o _ (by omega), o _ (by omega), brkR_congr (eqR_mem (fun f f1 f2 => o _ (by omega)))]
    exact (r1 k hk).2
  · rw [s2_k (by decide)]
    rcases r2 with q | ⟨q, r⟩
    · exact Or.inl q
    · exact Or.inr ⟨q, r.reg (fun c c1 c2 => o _ (by omega)) (s2_k (by decide)) (o _ (by omega)) (o _ (by omega))⟩
/-- what is known of the objects has grown, or the row has been laid -/
theorem JV.lk (h : JV g I J a no np ev ns ow pl ca ba L cnt sb) (hs : layS (a + 18) I J I2 J2) (hK : ∀ k, k < no → MK I2 J2 (a + 18) k (cnt k) L) (hrow : I2 (a + 18) 30 = 0 ∨ I2 (a + 18) 30 = 1 ∧ RRow I2 (a + 18) no np ev ow pl L cnt) : JV g I2 J2 a no np ev ns ow pl ca ba L cnt sb ∧ ∀ b, b < a + 18 ∨ a + 45 ≤ b → I2 b = I b ∧ J2 b = J b := by
  have o : ∀ b, b < a + 18 ∨ a + 45 ≤ b → I2 b = I b ∧ J2 b = J b := fun b hb => ⟨hs.1 b (by omega) (by omega) (by omega) (by omega) (by omega) (by omega) (by omega) (by omega) (by omega) (by omega), hs.2.2 b (by omega) (by omega) (by omega) (by omega)⟩
  have h1 : ∀ c, 1 ≤ c → c ≤ 12 → I2 (a + 18 + c) = I (a + 18 + c) := fun c c1 c2 => hs.1 _ (by omega) (by omega) (by omega) (by omega) (by omega) (by omega) (by omega) (by omega) (by omega) (by omega)
  refine ⟨h.ref o h1 (hs.2.1 1 (by decide) (by decide) (by decide) (by decide)) (hs.2.1 5 (by decide) (by decide) (by decide) (by decide)) (hs.2.1 15 (by decide) (by decide) (by decide) (by decide)) ⟨fun k hk => ⟨hK k hk, ?_⟩, hrow⟩, o⟩
  rw [hs.1 (a + 18 + 23) (by omega) (by omega) (by omega) (by omega) (by omega) (by omega) (by omega) (by omega) (by omega) (by omega), hs.1 (a + 18 + 22) (by omega) (by omega) (by omega) (by omega) (by omega) (by omega) (by omega) (by omega) (by omega) (by omega), h1 1 (by decide) (by decide), brkR_congr (eqR_mem (fun f f1 f2 => h1 f (by omega) (by omega)))]
  exact (h.2.2.2.2.1.1 k hk).2
theorem JV.lkS (h : JV g I J a no np ev ns ow pl ca ba L cnt sb) (hs : lkS (a + 18) I J I2 J2) (hK : ∀ k, k < no → MK I2 J2 (a + 18) k (cnt k) L) : JV g I2 J2 a no np ev ns ow pl ca ba L cnt sb ∧ ∀ b, b < a + 18 ∨ a + 45 ≤ b → I2 b = I b ∧ J2 b = J b := by
  refine h.lk hs.L hK ?_
  have e30 : I2 (a + 18) 30 = I (a + 18) 30 := hs.2.1 30 (by decide) (by decide)
  rw [e30]
  rcases h.2.2.2.2.1.2 with q | ⟨q, r⟩
  · exact Or.inl q
  · exact Or.inr ⟨q, r.reg (fun c c1 c2 => hs.1 _ (by omega) (by omega) (by omega) (by omega) (by omega) (by omega)) (hs.2.1 31 (by decide) (by decide)) (hs.1 _ (by omega) (by omega) (by omega) (by omega) (by omega) (by omega)) (hs.1 _ (by omega) (by omega) (by omega) (by omega) (by omega) (by omega))⟩
theorem JV.look (h : JV g I J a no np ev ns ow pl ca ba L cnt sb) {k : Nat} (hk : k < no) {g2 : GM} {v : Option Value} (hq : lookQ g (s2 I (a + 18) 0 0) J (a + 18) k (cnt k) L v g2 I2 J2) : g2 = g ∧ JV g I2 J2 a no np ev ns ow pl ca ba L cnt sb ∧ (∀ b, b < a + 18 ∨ a + 45 ≤ b → I2 b = I b ∧ J2 b = J b) ∧ I2 (a + 18) 0 = 0 ∧ rfnd (rE I2 (a + 18) L k) (Nf L k) (I2 (a + 18 + 1) k) (cnt k) (I2 (a + 18) 15) (a + 18) k I2 J2 ∧ ∀ c, 1 ≤ c → c ≤ 12 → I2 (a + 18 + c) = I (a + 18 + c) := by
  have h0 := h.m0 0
  obtain ⟨m1, m2, m3, m4⟩ := look_MK (h0.2.2.2.2.1.1 k hk).1 hq
  obtain ⟨r1, r2⟩ := h0.lkS m3 (fun j hj => by
    by_cases q : j = k
    · rw [q]; exact m1
    · exact m4 j _ q (h0.2.2.2.2.1.1 j hj).1)
  refine ⟨hq.2.1, r1, fun b hb => ⟨(r2 b hb).1.trans (s2_off (by omega)), (r2 b hb).2⟩, ?_, m1.2.2.2 m2, fun c c1 c2 => (m3.1 _ (by omega) (by omega) (by omega) (by omega) (by omega) (by omega)).trans (s2_off (by omega))⟩
  rw [m3.2.1 0 (by decide) (by decide), s2_self]
theorem JV.brkM (h : JV g I J a no np ev ns ow pl ca ba L cnt sb) {k : Nat} (hk : k < no) (hs : offH (a + 18) k I J I2 J2) (hb : I2 (a + 18 + 23) k = 0 ∨ I2 (a + 18 + 23) k = 1 ∧ I2 (a + 18 + 22) k = brkR (rE I (a + 18) L k) (Nf L k) (I (a + 18 + 1) k) (cnt k) ev) : JV g I2 J2 a no np ev ns ow pl ca ba L cnt sb ∧ ∀ b, b < a + 18 ∨ a + 45 ≤ b → I2 b = I b ∧ J2 b = J b := by
  obtain ⟨s1, s2', s3, s4, s5, s6⟩ := hs
  have o : ∀ b, b < a + 18 ∨ a + 45 ≤ b → I2 b = I b ∧ J2 b = J b := fun b hb => ⟨s1 b (by omega) (by omega) (by omega) (by omega), s5 b (by omega) (by omega) (by omega)⟩
  have h1 : ∀ c, 1 ≤ c → c ≤ 12 → I2 (a + 18 + c) = I (a + 18 + c) := fun c c1 c2 => s1 _ (by omega) (by omega) (by omega) (by omega)
  have h6 := h.2.2.1.1
  refine ⟨h.ref o h1 (s2' 1 (by decide) (by decide)) (s2' 5 (by decide) (by decide)) (s2' 15 (by decide) (by decide)) ⟨fun j hj => ⟨(h.2.2.2.2.1.1 j hj).1.gen (fun z z1 z2 => h1 z z1 (by omega)) (s2' 15 (by decide) (by decide)) (by rw [s1 _ (by omega) (by omega) (by omega) (by omega)]) (by rw [s1 _ (by omega) (by omega) (by omega) (by omega)]) (by rw [s1 _ (by omega) (by omega) (by omega) (by omega)]) (by rw [s1 _ (by omega) (by omega) (by omega) (by omega)]) (by rw [s5 _ (by omega) (by omega) (by omega)]) (fun i i1 i2 => ⟨s3 i (by omega), s6 i (by omega)⟩), ?_⟩, ?_⟩, o⟩
  · rw [h1 1 (by decide) (by decide), brkR_congr (eqR_mem (fun f f1 f2 => h1 f (by omega) (by omega)))]
    by_cases q : j = k
    · rw [q]; exact hb
    · rw [(s4 j q).1, (s4 j q).2]
      exact (h.2.2.2.2.1.1 j hj).2
  · rw [s2' 30 (by decide) (by decide)]
    rcases h.2.2.2.2.1.2 with q | ⟨q, r⟩
    · exact Or.inl q
    · exact Or.inr ⟨q, r.reg (fun c c1 c2 => h1 c c1 (by omega)) (s2' 31 (by decide) (by decide)) (s1 _ (by omega) (by omega) (by omega) (by omega)) (s1 _ (by omega) (by omega) (by omega) (by omega))⟩
theorem offG.H {m k : Nat} {I I2 : MI} {J J2 : MJ} (h : offG m 12006 I J I2 J2) : offH m k I J I2 J2 := ⟨fun b b1 b2 _ _ => h.1 b b1 b2, h.2.1, fun i hi => h.2.2.1 i (Or.inl hi), fun j _ => ⟨by rw [h.1 _ (by omega) (by omega)], by rw [h.1 _ (by omega) (by omega)]⟩, h.2.2.2.1, fun i hi => h.2.2.2.2 i (Or.inl hi)⟩
end QJ
