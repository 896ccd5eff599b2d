/-! CLASS AND REFERENCE IN ONE MEMORY: the class at a, the reference at a + 18, the law's array at a + 45 -/
abbrev Nf (L : Nat → Nat) (k : Nat) : Nat → Nat := fun j => L (16 * k + j)
abbrev cF (t L : Nat → Nat) (k : Nat) : Nat → Nat := fun i => t (L (16 * k + i))
def RM (I : MI) (m no np ev : Nat) (ow ca ba L cnt : Nat → Nat) : Prop := I m 1 = nI no ∧ I m 5 = nI np ∧ I m 15 = nI ev ∧ LsOK I m L ∧ (∀ k, k < no → I (m + 2) k = nI (cnt k)) ∧ ∀ x, x < np → I (m + 5) x = nI (ow x) ∧ I (m + 10) x = nI (ca x) ∧ I (m + 11) x = nI (ba x)
def RRow (I : MI) (m no np ev : Nat) (ow pl L cnt : Nat → Nat) : Prop := ∃ (R : Nat → Nat → Nat → Int32) (kd : Nat → Int32) (bf : Nat → Nat → Bool) (X : Nat → XS) (h2 : Nat → Nat → Int32) (B : BS), (∀ k, k < no → eqR (rE I m L k) (R k) ∧ kd k = I (m + 1) k ∧ brun (rstp (R k) (Nf L k) (kd k) (cnt k) (nI ev) 0) (cnt k) = some (X k)) ∧ (∀ x y, x < np → y < np → bf x y = decide (bfr I m (nI ev) 0 x y)) ∧ grow (rowG no np ev ow pl L cnt R kd X bf h2) 49 (fun _ => 0) (0, fun _ => 0, fun _ => 0) = some B ∧ B.1 ≤ 48 ∧ I m 31 = nI B.1 ∧ ∀ i, i < B.1 → I (m + 24) i = B.2.1 i ∧ I (m + 25) i = B.2.2 i
def RC (I : MI) (J : MJ) (m no np ev : Nat) (ow pl L cnt : Nat → Nat) : Prop := (∀ k, k < no → MK I J m k (cnt k) L ∧ (I (m + 23) k = 0 ∨ I (m + 23) k = 1 ∧ I (m + 22) k = brkR (rE I m L k) (Nf L k) (I (m + 1) k) (cnt k) ev)) ∧ (I m 30 = 0 ∨ I m 30 = 1 ∧ RRow I m no np ev ow pl L cnt)
def CRow (I : MI) (J : MJ) (a no np : Nat) (ow pl cnt sb : Nat → Nat) : Prop := ∃ (E : Nat → Nat → Nat → Int32) (kd rt : Nat → Int32) (X : Nat → XS) (hp h1 : Nat → Nat → Int32) (der : Nat → Int64) (B : BS), (∀ k, k < no → (∀ i q, i < 16 → E k i q = opE I (sb k) i q) ∧ kd k = I (sb k) 5 ∧ rt k = I (sb k) 8 ∧ xrun (E k) (kd k) (rt k) 0 (cnt k) = some (X k) ∧ hp k = hmark (E k) (kd k) (rt k) 0 (cnt k) (X k) (X k).1 (h1 k)) ∧ (∀ x, x < np → der x = J (a + 4) x) ∧ B = brw (rowD no np ow pl E kd rt X der hp) np 0 (fun _ => 0) (0, fun _ => 0, fun _ => 0) ∧ I a 9 = nI B.1 ∧ B.1 ≤ np ∧ ∀ i, i < B.1 → I (a + 15) i = B.2.1 i ∧ I (a + 16) i = B.2.2 i
/-- what the class keeps of an object's breaks -/
def BK (I : MI) (m u k ev n : Nat) (ca ba L : Nat → Nat) : Prop := ∃ (q bl : Nat) (bj cn : Nat → Nat), I u 7 = nI q ∧ q ≤ n ∧ I u 16 = nI bl ∧ bl ≤ q ∧
    (∀ i, i < q → bj i < n ∧ 0 < cF ba L k (bj i) ∧ cF ba L k (bj i) ≤ ev ∧ I (u + 11) i = nI (cF ba L k (bj i)) ∧ I (u + 12) i = nI (cn i) ∧ OH (opE I u) (rE I m L k) (Nf L k) (I u 5) (I (u + 13) i) (cn i) n (cF ba L k (bj i)) (cF ca L k) (cF ba L k)) ∧
    (∀ i j, i < j → j < q → cF ba L k (bj i) < cF ba L k (bj j)) ∧
    (∀ j, j < n → 0 < cF ba L k j → ∃ i, i < q ∧ bj i = j) ∧
    CBk (fun e => rjd (rE I m L k) (Nf L k) (I u 5) n (nI e) 0) (fun i => cF ba L k (bj i)) bl (I u 17)
def CO (I : MI) (J : MJ) (m u k ev n : Nat) (ca ba L : Nat → Nat) : Prop :=
  SI I J u n ∧ I u 5 = I (m + 1) k ∧ OH (opE I u) (rE I m L k) (Nf L k) (I u 5) (I u 8) n n ev (cF ca L k) (cF ba L k) ∧
  (I u 14 = 0 ∨ I u 14 = 1 ∧ I u 15 = ownR (opE I u) (I u 5) (I u 8) n) ∧ BK I m u k ev n ca ba L
def ST (g : GM) (a ns : Nat) (sb : Nat → Nat) : Prop := LHAt g a ∧ MoAt g (a + 18) ∧ g.1 (a + 45) = (11, 1) ∧ a + 46 ≤ g.2.2 ∧ ns ≤ 6 ∧ (∀ k, k < ns → g.2.1 (a + 1) k = some (sb k) ∧ SuAt g (sb k) ∧ a + 46 ≤ sb k ∧ sb k + 30 ≤ g.2.2) ∧ (∀ k j, k < j → j < ns → sb k + 30 ≤ sb j) ∧ ∀ k, ns ≤ k → k < 6 → g.2.1 (a + 1) k = none
def CM (I : MI) (J : MJ) (a m no np ev : Nat) (ow pl ca ba : Nat → Nat) : Prop := I a 11 = nI no ∧ I a 12 = nI np ∧ I a 13 = nI ev ∧ (∀ x, x < 64 → (gb (J a 14) x = true ↔ x < np ∧ 0 < ba x)) ∧ (∀ x, x < np → I (a + 2) x = nI (ow x) ∧ I (a + 3) x = nI (pl x) ∧ ∀ y, y < 64 → (gb (J (a + 4) x) y = true ↔ y < np ∧ 0 < ba y ∧ ba y < ca x)) ∧ ∀ p, p < 8 → I (a + 5) p = I (m + 12) p ∧ (I (m + 12) p = -1 ∨ ∃ x, x < np ∧ I (m + 12) p = nI x ∧ ba x = 0 ∧ I (m + 4) x = nI p)
def JV (g : GM) (I : MI) (J : MJ) (a no np ev ns : Nat) (ow pl ca ba L cnt sb : Nat → Nat) : Prop := ST g a ns sb ∧ no ≤ ns ∧ HF no np ev ow pl ca ba L cnt ∧ RM I (a + 18) no np ev ow ca ba L cnt ∧ RC I J (a + 18) no np ev ow pl L cnt ∧ CM I J a (a + 18) no np ev ow pl ca ba ∧ (∀ k, k < no → CO I J (a + 18) (sb k) k ev (cnt k) ca ba L) ∧ (I a 10 = 0 ∨ I a 10 = 1 ∧ CRow I J a no np ow pl cnt sb)
/-! what each of them reads -/
theorem MK.reg {I I2 : MI} {J J2 : MJ} {m k cnt : Nat} {L : Nat → Nat} (h : MK I J m k cnt L) (hb : ∀ b, m ≤ b → b < m + 27 → I2 b = I b ∧ J2 b = J b) : MK I2 J2 m k cnt L := by
  obtain ⟨a1, a2, a3, a4⟩ := h
  have o : ∀ c, c < 27 → I2 (m + c) = I (m + c) := fun c hc => (hb (m + c) (by omega) (by omega)).1
  have p : ∀ c, c < 27 → J2 (m + c) = J (m + c) := fun c hc => (hb (m + c) (by omega) (by omega)).2
  have e0 : I2 m = I m := (hb m (Nat.le_refl _) (by omega)).1
  refine ⟨by rw [o 2 (by decide)]; exact a1, a2, by rw [o 17 (by decide)]; exact a3, fun hk => ?_⟩
  rw [o 17 (by decide)] at hk
  rw [o 1 (by decide), e0]
  exact rfnd_congr (eqR_mem (fun f _ h11 => o f (by omega))) (rfnd_mem a2 (by rw [o 18 (by decide)]) (by rw [o 19 (by decide)]) (by rw [o 21 (by decide)]) (by rw [p 20 (by decide)]) (fun i _ _ => ⟨by rw [o 13 (by decide)], by rw [p 14 (by decide)]⟩) (a4 hk))
theorem brkR_congr {R R2 : Nat → Nat → Int32} {N : Nat → Nat} {kind : Int32} {cnt ev : Nat} (h : eqR R R2) : brkR R2 N kind cnt ev = brkR R N kind cnt ev := by
  unfold brkR
  have e1 : tchB R2 cnt = tchB R cnt := funext fun e => by
    show decide (rTch R2 cnt (nI e)) = decide (rTch R cnt (nI e))
    unfold rTch
    have : ∀ i, (R2 i 10 = nI e ∨ R2 i 11 = nI e) ↔ (R i 10 = nI e ∨ R i 11 = nI e) := fun i => by rw [h.at i 10 (by decide) (by decide), h.at i 11 (by decide) (by decide)]
    simp only [this]
  have e2 : (fun e => rjd R2 N kind cnt (nI e) 0) = fun e => rjd R N kind cnt (nI e) 0 := funext fun e => rjd_congr h
  rw [e1, e2]
theorem eqR.tr {R R2 R3 : Nat → Nat → Int32} (h : eqR R R2) (h2 : eqR R2 R3) : eqR R R3 := fun f a b => (h2 f a b).trans (h f a b)
theorem eqR.sy {R R2 : Nat → Nat → Int32} (h : eqR R R2) : eqR R2 R := fun f a b => (h f a b).symm
theorem RRow.reg {I I2 : MI} {m no np ev : Nat} {ow pl L cnt : Nat → Nat} (h : RRow I m no np ev ow pl L cnt) (h1 : ∀ c, 1 ≤ c → c ≤ 11 → I2 (m + c) = I (m + c)) (h31 : I2 m 31 = I m 31) (h24 : I2 (m + 24) = I (m + 24)) (h25 : I2 (m + 25) = I (m + 25)) : RRow I2 m no np ev ow pl L cnt := by
  obtain ⟨R, kd, bf, X, h2, B, a1, a2, a3, a4, a5, a6⟩ := h
  refine ⟨R, kd, bf, X, h2, B, fun k hk => ?_, fun x y hx hy => ?_, a3, a4, by rw [h31]; exact a5, fun i hi => by rw [h24, h25]; exact a6 i hi⟩
  · obtain ⟨b1, b2, b3⟩ := a1 k hk
    exact ⟨(eqR_mem (fun f f1 f2 => (h1 f (by omega) f2).symm)).tr b1, by rw [h1 1 (by decide) (by decide)]; exact b2, b3⟩
  · rw [a2 x y hx hy]
    unfold bfr
    rw [h1 11 (by decide) (by decide), h1 10 (by decide) (by decide), h1 4 (by decide) (by decide)]
theorem RC.reg {I I2 : MI} {J J2 : MJ} {m no np ev : Nat} {ow pl L cnt : Nat → Nat} (h : RC I J m no np ev ow pl L cnt) (hb : ∀ b, m ≤ b → b < m + 27 → I2 b = I b ∧ J2 b = J b) : RC I2 J2 m no np ev ow pl L cnt := by
  have o : ∀ c, c < 27 → I2 (m + c) = I (m + c) := fun c hc => (hb (m + c) (by omega) (by omega)).1
  have e0 : I2 m = I m := (hb m (Nat.le_refl _) (by omega)).1
  refine ⟨fun k hk => ⟨(h.1 k hk).1.reg hb, ?_⟩, ?_⟩
  · rw [o 23 (by decide), o 22 (by decide), o 1 (by decide), brkR_congr (eqR_mem (fun f _ h11 => o f (by omega)))]
    exact (h.1 k hk).2
  · rw [e0]
    rcases h.2 with q | ⟨q, r⟩
    · exact Or.inl q
    · exact Or.inr ⟨q, r.reg (fun c _ c2 => o c (by omega)) (by rw [e0]) (o 24 (by decide)) (o 25 (by decide))⟩
theorem RM.reg {I I2 : MI} {m no np ev : Nat} {ow ca ba L cnt : Nat → Nat} (h : RM I m no np ev ow ca ba L cnt) (h1 : ∀ c, 1 ≤ c → c ≤ 12 → I2 (m + c) = I (m + c)) (e1 : I2 m 1 = I m 1) (e5 : I2 m 5 = I m 5) (e15 : I2 m 15 = I m 15) : RM I2 m no np ev ow ca ba L cnt := by
  obtain ⟨a1, a2, a3, a4, a5, a6⟩ := h
  exact ⟨by rw [e1]; exact a1, by rw [e5]; exact a2, by rw [e15]; exact a3, fun q hq => by rw [h1 3 (by decide) (by decide)]; exact a4 q hq, fun k hk => by rw [h1 2 (by decide) (by decide)]; exact a5 k hk, fun x hx => by rw [h1 5 (by decide) (by decide), h1 10 (by decide) (by decide), h1 11 (by decide) (by decide)]; exact a6 x hx⟩
theorem OH.same {E R E' R' : Nat → Nat → Int32} {N : Nat → Nat} {kind ret : Int32} {n cnt e : Nat} {c b : Nat → Nat} (h : OH E R N kind ret n cnt e c b) (hE : ∀ i k, i < 16 → E' i k = E i k) (hR : eqR R R') : OH E' R' N kind ret n cnt e c b := by
  have h1 := h.1
  have h2 := h.2.1
  exact h.ext (fun i k hi _ => hE i k (by omega)) (fun i hi _ _ => hE i 5 (by omega)) (fun i f _ f1 f2 => hR.at i f f1 (by omega)) (fun i _ _ _ => hR.at i 9 (by decide) (by decide)) (Nat.le_refl _) h2 (fun _ _ => rfl) (fun _ _ => Or.inl rfl) (fun i a b => by omega) h.2.2.2.2.2.2.2.2.2.2
theorem CBk.congr {jd jd' : Nat → Int32} {be be' : Nat → Nat} {bl : Nat} {v : Int32} (h : CBk jd be bl v) (h1 : ∀ i, i < bl → be' i = be i) (h2 : ∀ i, i < bl → (jd' (be i) = 0 ↔ jd (be i) = 0)) : CBk jd' be' bl v := by
  rcases h with ⟨a, b⟩ | ⟨i, i1, i2, i3, i4⟩
  · exact Or.inl ⟨a, fun i hi q => b i hi ((h2 i hi).mp (by rw [← h1 i hi]; exact q))⟩
  · exact Or.inr ⟨i, i1, by rw [h1 i i1]; exact i2, by rw [h1 i i1]; exact (h2 i i1).mpr i3, fun j hj q => i4 j hj ((h2 j (by omega)).mp (by rw [← h1 j (by omega)]; exact q))⟩
theorem BK.reg {I I2 : MI} {m u k ev n : Nat} {ca ba L : Nat → Nat} (h : BK I m u k ev n ca ba L) (e5 : I2 u 5 = I u 5) (e7 : I2 u 7 = I u 7) (e16 : I2 u 16 = I u 16) (e17 : I2 u 17 = I u 17) (e11 : I2 (u + 11) = I (u + 11)) (e12 : I2 (u + 12) = I (u + 12)) (e13 : I2 (u + 13) = I (u + 13)) (hop : ∀ i q, i < 16 → opE I2 u i q = opE I u i q) (hm : ∀ c, 1 ≤ c → c ≤ 11 → I2 (m + c) = I (m + c)) : BK I2 m u k ev n ca ba L := by
  obtain ⟨q, bl, bj, cn, b1, b2, b3, b4, b5, b6, b7, b8⟩ := h
  have hR : eqR (rE I m L k) (rE I2 m L k) := eqR_mem (fun f f1 f2 => hm f (by omega) f2)
  refine ⟨q, bl, bj, cn, by rw [e7]; exact b1, b2, by rw [e16]; exact b3, b4, fun i hi => ?_, b6, b7, ?_⟩
  · obtain ⟨c1, c2, c3, c4, c5, c6⟩ := b5 i hi
    exact ⟨c1, c2, c3, by rw [e11]; exact c4, by rw [e12]; exact c5, by rw [e5, e13]; exact c6.same hop hR⟩
  · rw [e17, e5]
    exact b8.congr (fun _ _ => rfl) (fun i _ => by rw [rjd_congr hR])
theorem ownR_congr {E E2 : Nat → Nat → Int32} {kind ret : Int32} {n : Nat} (hn : n ≤ 16) (h : ∀ i k, i < 16 → E2 i k = E i k) : ownR E2 kind ret n = ownR E kind ret n := by
  unfold ownR
  rw [xrun_congr hn h]
theorem CO.ls {I I2 : MI} {J J2 : MJ} {m u k ev n : Nat} {ca ba L : Nat → Nat} (h : CO I J m u k ev n ca ba L) (hs : SI I2 J2 u n) (hl : lsame u I J I2 J2) (hm : ∀ c, 1 ≤ c → c ≤ 11 → I2 (m + c) = I (m + c)) : CO I2 J2 m u k ev n ca ba L := by
  obtain ⟨a1, a2, a3, a4, a5⟩ := h
  have e : ∀ c, c ≠ 9 → c ≠ 10 → c ≠ 11 → c ≠ 13 → I2 u c = I u c := hl.1
  have hR : eqR (rE I m L k) (rE I2 m L k) := eqR_mem (fun f f1 f2 => hm f (by omega) f2)
  refine ⟨hs, by rw [e 5 (by decide) (by decide) (by decide) (by decide), hm 1 (by decide) (by decide)]; exact a2, ?_, ?_, ?_⟩
  · rw [e 5 (by decide) (by decide) (by decide) (by decide), e 8 (by decide) (by decide) (by decide) (by decide)]
    exact a3.same hl.op hR
  · rw [e 14 (by decide) (by decide) (by decide) (by decide), e 15 (by decide) (by decide) (by decide) (by decide), e 5 (by decide) (by decide) (by decide) (by decide), e 8 (by decide) (by decide) (by decide) (by decide), ownR_congr a1.2.1 hl.op]
    exact a4
  · exact a5.reg (e 5 (by decide) (by decide) (by decide) (by decide)) (e 7 (by decide) (by decide) (by decide) (by decide)) (e 16 (by decide) (by decide) (by decide) (by decide)) (e 17 (by decide) (by decide) (by decide) (by decide)) (hl.2 _ (by omega) (by omega) (by omega)) (hl.2 _ (by omega) (by omega) (by omega)) (hl.2 _ (by omega) (by omega) (by omega)) hl.op hm
theorem CO.same {I I2 : MI} {J J2 : MJ} {m u k ev n : Nat} {ca ba L : Nat → Nat} (h : CO I J m u k ev n ca ba L) (hu : ∀ b, u ≤ b → b < u + 30 → I2 b = I b ∧ J2 b = J b) (hm : ∀ c, 1 ≤ c → c ≤ 11 → I2 (m + c) = I (m + c)) : CO I2 J2 m u k ev n ca ba L := h.ls (SI_mem (fun b b1 b2 => (hu b b1 b2).1) (fun b b1 b2 => (hu b b1 b2).2) h.1) ⟨fun c _ _ _ _ => by rw [(hu u (Nat.le_refl _) (by omega)).1], fun b b1 _ b3 => (hu b (by omega) b3).1⟩ hm
theorem CRow.reg {I I2 : MI} {J J2 : MJ} {a no np : Nat} {ow pl cnt sb : Nat → Nat} (h : CRow I J a no np ow pl cnt sb) (hop : ∀ k, k < no → (∀ i q, i < 16 → opE I2 (sb k) i q = opE I (sb k) i q) ∧ I2 (sb k) 5 = I (sb k) 5 ∧ I2 (sb k) 8 = I (sb k) 8) (h4 : J2 (a + 4) = J (a + 4)) (h9 : I2 a 9 = I a 9) (h15 : I2 (a + 15) = I (a + 15)) (h16 : I2 (a + 16) = I (a + 16)) : CRow I2 J2 a no np ow pl cnt sb := by
  obtain ⟨E, kd, rt, X, hp, h1, der, B, b1, b2, b3, b4, b5, b6⟩ := h
  refine ⟨E, kd, rt, X, hp, h1, der, B, fun k hk => ?_, fun x hx => by rw [h4]; exact b2 x hx, b3, by rw [h9]; exact b4, b5, fun i hi => by rw [h15, h16]; exact b6 i hi⟩
  obtain ⟨c1, c2, c3, c4⟩ := b1 k hk
  obtain ⟨d1, d2, d3⟩ := hop k hk
  exact ⟨fun i q hi => by rw [d1 i q hi]; exact c1 i q hi, by rw [d2]; exact c2, by rw [d3]; exact c3, c4⟩
/-- the reference has answered -/
theorem JV.ref {g : GM} {I I2 : MI} {J J2 : MJ} {a no np ev ns : Nat} {ow pl ca ba L cnt sb : Nat → Nat} (h : JV g I J a no np ev ns ow pl ca ba L cnt sb) (hb : ∀ b, b < a + 18 ∨ a + 45 ≤ b → I2 b = I b ∧ J2 b = J b) (h1 : ∀ c, 1 ≤ c → c ≤ 12 → I2 (a + 18 + c) = I (a + 18 + c)) (e1 : I2 (a + 18) 1 = I (a + 18) 1) (e5 : I2 (a + 18) 5 = I (a + 18) 5) (e15 : I2 (a + 18) 15 = I (a + 18) 15) (hRC : RC I2 J2 (a + 18) no np ev ow pl L cnt) : JV g I2 J2 a no np ev ns ow pl ca ba L cnt sb := by
  obtain ⟨hS, hns, hH, hRM, -, hC, hO, hrow⟩ := h
  have lo : ∀ c, c < 18 → I2 (a + c) = I (a + c) := fun c hc => (hb (a + c) (by omega)).1
  have loJ : ∀ c, c < 18 → J2 (a + c) = J (a + c) := fun c hc => (hb (a + c) (by omega)).2
  have e0 : I2 a = I a := lo 0 (by decide)
  have j0 : J2 a = J a := loJ 0 (by decide)
  have hsb : ∀ k, k < no → a + 46 ≤ sb k := fun k hk => (hS.2.2.2.2.2.1 k (by omega)).2.2.1
  have hsub : ∀ k, k < no → ∀ b, sb k ≤ b → I2 b = I b ∧ J2 b = J b := fun k hk b b1 => hb b (by have := hsb k hk; omega)
  obtain ⟨c1, c2, c3, c4, c5, c6⟩ := hC
  refine ⟨hS, hns, hH, hRM.reg h1 e1 e5 e15, hRC, ⟨by rw [e0]; exact c1, by rw [e0]; exact c2, by rw [e0]; exact c3, by rw [j0]; exact c4, fun x hx => by rw [lo 2 (by decide), lo 3 (by decide), loJ 4 (by decide)]; exact c5 x hx, fun p hp => by rw [lo 5 (by decide), h1 12 (by decide) (by decide), h1 4 (by decide) (by decide)]; exact c6 p hp⟩, fun k hk => (hO k hk).same (fun b b1 _ => hsub k hk b b1) (fun c c1 c2 => h1 c c1 (by omega)), ?_⟩
  rw [e0]
  rcases hrow with q | ⟨q, r⟩
  · exact Or.inl q
  · refine Or.inr ⟨q, r.reg (fun k hk => ⟨fun i q _ => by show I2 (sb k + 14 + i) q = _; rw [(hsub k hk _ (by omega)).1], by rw [(hsub k hk _ (Nat.le_refl _)).1], by rw [(hsub k hk _ (Nat.le_refl _)).1]⟩) (loJ 4 (by decide)) (by rw [e0]) (lo 15 (by decide)) (lo 16 (by decide))⟩
/-- the class has answered -/
theorem JV.cls {g : GM} {I I2 : MI} {J J2 : MJ} {a no np ev ns : Nat} {ow pl ca ba L cnt sb : Nat → Nat} (h : JV g I J a no np ev ns ow pl ca ba L cnt sb) (hb : ∀ b, a + 18 ≤ b → b < a + 45 → I2 b = I b ∧ J2 b = J b) (e11 : I2 a 11 = I a 11) (e12 : I2 a 12 = I a 12) (e13 : I2 a 13 = I a 13) (e14 : J2 a 14 = J a 14) (h2 : I2 (a + 2) = I (a + 2)) (h3 : I2 (a + 3) = I (a + 3)) (h4 : J2 (a + 4) = J (a + 4)) (h5 : I2 (a + 5) = I (a + 5)) (hO : ∀ k, k < no → CO I2 J2 (a + 18) (sb k) k ev (cnt k) ca ba L) (hrow : I2 a 10 = 0 ∨ I2 a 10 = 1 ∧ CRow I2 J2 a no np ow pl cnt sb) : JV g I2 J2 a no np ev ns ow pl ca ba L cnt sb := by
  obtain ⟨hS, hns, hH, hRM, hRC, hC, -, -⟩ := h
  have o : ∀ c, c < 27 → I2 (a + 18 + c) = I (a + 18 + c) := fun c hc => (hb _ (by omega) (by omega)).1
  have e0 : I2 (a + 18) = I (a + 18) := o 0 (by decide)
  obtain ⟨c1, c2, c3, c4, c5, c6⟩ := hC
  exact ⟨hS, hns, hH, hRM.reg (fun c _ c2 => o c (by omega)) (by rw [e0]) (by rw [e0]) (by rw [e0]), hRC.reg (fun b b1 b2 => hb b b1 (by omega)), ⟨by rw [e11]; exact c1, by rw [e12]; exact c2, by rw [e13]; exact c3, by rw [e14]; exact c4, fun x hx => by rw [h2, h3, h4]; exact c5 x hx, fun p hp => by rw [h5, o 12 (by decide), o 4 (by decide)]; exact c6 p hp⟩, hO, hrow⟩
theorem JV.out {g : GM} {I : MI} {J : MJ} {a no np ev ns : Nat} {ow pl ca ba L cnt sb : Nat → Nat} (h : JV g I J a no np ev ns ow pl ca ba L cnt sb) (z : Int64) : JV g I (s2 J (a + 45) 0 z) a no np ev ns ow pl ca ba L cnt sb := by
  have o : ∀ b, b ≠ a + 45 → s2 J (a + 45) 0 z b = J b := fun b hb => s2_off hb
  have hS := h.1
  have hns := h.2.1
  refine h.cls (fun b b1 b2 => ⟨rfl, o b (by omega)⟩) rfl rfl rfl (by rw [o a (by omega)]) rfl rfl (o _ (by omega)) rfl (fun k hk => (h.2.2.2.2.2.2.1 k hk).same (fun b b1 _ => ⟨rfl, o b (by have := (hS.2.2.2.2.2.1 k (by omega)).2.2.1; omega)⟩) (fun _ _ _ => rfl)) ?_
  rcases h.2.2.2.2.2.2.2 with q | ⟨q, r⟩
  · exact Or.inl q
  · exact Or.inr ⟨q, r.reg (fun k hk => ⟨fun _ _ _ => rfl, rfl, rfl⟩) (o _ (by omega)) rfl rfl rfl⟩
theorem SpAt.g {g g2 : GM} {s : Nat} (h : SpAt g s) (h1 : g2.1 = g.1) (h2 : g2.2.1 = g.2.1) : SpAt g2 s := by
  unfold SpAt TaAt
  rw [h1, h2]
  exact h
theorem ST.g {g g2 : GM} {a ns : Nat} {sb : Nat → Nat} (h : ST g a ns sb) (h1 : g2.1 = g.1) (h2 : g2.2.1 = g.2.1) (h3 : g.2.2 ≤ g2.2.2) : ST g2 a ns sb := by
  obtain ⟨a1, a2, a3, a4, a5, a6, a7, a8⟩ := h
  refine ⟨?_, ?_, by rw [h1]; exact a3, by omega, a5, fun k hk => ?_, a7, fun k k1 k2 => by rw [h2]; exact a8 k k1 k2⟩
  · unfold LHAt at a1 ⊢
    obtain ⟨b1, b2, b3, b4, b5, b6, b7, b8⟩ := a1
    rw [h1, h2]
    exact ⟨b1, b2, b3, b4, b5, b6, b7.g h1 h2, b8⟩
  · unfold MoAt at a2 ⊢
    rw [h1, h2]
    exact a2
  · obtain ⟨c1, c2, c3, c4⟩ := a6 k hk
    refine ⟨by rw [h2]; exact c1, ?_, c3, by omega⟩
    unfold SuAt OpsAt at c2 ⊢
    obtain ⟨d1, d2, d3, d4⟩ := c2
    rw [h1, h2]
    exact ⟨d1, d2, d3.g h1 h2, d4⟩
theorem JV.g {g g2 : GM} {I : MI} {J : MJ} {a no np ev ns : Nat} {ow pl ca ba L cnt sb : Nat → Nat} (h : JV g I J a no np ev ns ow pl ca ba L cnt sb) (h1 : g2.1 = g.1) (h2 : g2.2.1 = g.2.1) (h3 : g.2.2 ≤ g2.2.2) : JV g2 I J a no np ev ns ow pl ca ba L cnt sb := ⟨h.1.g h1 h2 h3, h.2⟩
theorem JV.od {g : GM} {I : MI} {J : MJ} {a no np ev ns : Nat} {ow pl ca ba L cnt sb : Nat → Nat} (h : JV g I J a no np ev ns ow pl ca ba L cnt sb) (hev : ev < 2 ^ 20) {k : Nat} (hk : k < no) : (∀ {E : Nat → Nat → Int32} {kind ret : Int32} {n e : Nat}, e < 2 ^ 30 → OH E (rE I (a + 18) L k) (Nf L k) kind ret n (cnt k) e (cF ca L k) (cF ba L k) → OD E (rE I (a + 18) L k) (Nf L k) kind ret n (cnt k) (nI e)) ∧ EV (rE I (a + 18) L k) (cnt k) ev (cF ca L k) (cF ba L k) := by
  obtain ⟨-, -, ⟨h1, h2, h3, h4, h5, h6, h7, h8, h9⟩, ⟨-, -, -, r4, -, r6⟩, -⟩ := h
  have key : ∀ i, i < cnt k → rE I (a + 18) L k i 10 = nI (cF ca L k i) ∧ rE I (a + 18) L k i 11 = nI (cF ba L k i) ∧ 1 ≤ cF ca L k i ∧ cF ca L k i ≤ ev ∧ (cF ba L k i = 0 ∨ cF ca L k i < cF ba L k i ∧ cF ba L k i ≤ ev) := fun i hi => by
    obtain ⟨x1, -, -⟩ := h5 k hk i hi
    obtain ⟨-, y2, y3⟩ := r6 _ x1
    exact ⟨y2, y3, h8 _ x1⟩
  refine ⟨fun he hO => hO.od (fun i hi => ?_) he, h3 k hk, by omega, key, fun i j hi hj => ?_⟩
  · obtain ⟨q1, q2, q3, q4, q5⟩ := key i hi
    have := (h5 k hk i hi).1
    refine ⟨q1, q2, by omega, by omega, ?_⟩
    show L (16 * k + i) < _
    omega
  · exact (h9 _ _ (h5 k hk i hi).1 (h5 k hk j hj).1).1
