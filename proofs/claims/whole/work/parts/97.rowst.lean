/-! THE LAW'S STEPS: linear(), length(), row(), result() -/
section QS
variable {g : GM} {I I2 : MI} {J J2 : MJ} {a no np ev ns : Nat} {ow pl ca ba L cnt sb : Nat → Nat}
theorem mkG_rowG {m : Nat} {X : Nat → XS} {h0 : Nat → Nat → Int32} (h15 : I m 15 = nI ev) : mkG I m L cnt no np ow pl X h0 = rowG no np ev ow pl L cnt (fun k => rE I m L k) (fun k => I (m + 1) k) X (fun x y => decide (bfr I m (nI ev) 0 x y)) h0 := by
  have eK : kS I m L cnt = fun k => rstp (rE I m L k) (fun j => L (16 * k + j)) (I (m + 1) k) (cnt k) (nI ev) 0 := funext fun k => by
    show rstp _ _ _ _ (I m 15) 0 = _
    rw [h15]
  unfold mkG
  rw [eK]
  simp only [h15]
theorem JV.xr (h : JV g I J a no np ev ns ow pl ca ba L cnt sb) (hev : ev < 2 ^ 20) (hj : J1 I (a + 18) no ev L cnt) {k : Nat} (hk : k < no) : ∃ X1 X2, xrun (opE I (sb k)) (I (sb k) 5) (I (sb k) 8) 0 (cnt k) = some X1 ∧ brun (rstp (rE I (a + 18) L k) (Nf L k) (I (a + 18 + 1) k) (cnt k) (nI ev) 0) (cnt k) = some X2 := by
  obtain ⟨-, o2, o3, -⟩ := h.2.2.2.2.2.2.1 k hk
  rw [← o2]
  rcases run_rel ((h.od hev hk).1 (by omega) o3) (Or.inl rfl) with ⟨-, q⟩ | ⟨X1, X2, e1, e2, -⟩
  · have := hj k hk
    unfold rjd at this
    rw [← o2, q] at this
    exact absurd (show (-2 : Int32) = 1 from this) (by decide)
  · exact ⟨X1, X2, e1, e2⟩
abbrev gX1 (I : MI) (sb cnt : Nat → Nat) (k : Nat) : XS := (xrun (opE I (sb k)) (I (sb k) 5) (I (sb k) 8) 0 (cnt k)).getD X0
abbrev gX2 (I : MI) (m ev : Nat) (L cnt : Nat → Nat) (k : Nat) : XS := (brun (rstp (rE I m L k) (Nf L k) (I (m + 1) k) (cnt k) (nI ev) 0) (cnt k)).getD X0
theorem JV.xs (h : JV g I J a no np ev ns ow pl ca ba L cnt sb) (hev : ev < 2 ^ 20) (hj : J1 I (a + 18) no ev L cnt) {k : Nat} (hk : k < no) : xrun (opE I (sb k)) (I (sb k) 5) (I (sb k) 8) 0 (cnt k) = some (gX1 I sb cnt k) ∧ brun (rstp (rE I (a + 18) L k) (Nf L k) (I (a + 18 + 1) k) (cnt k) (nI ev) 0) (cnt k) = some (gX2 I (a + 18) ev L cnt k) := by
  obtain ⟨X1, X2, e1, e2⟩ := h.xr hev hj hk
  unfold gX1 gX2
  rw [e1, e2]
  exact ⟨rfl, rfl⟩
/-- the row, of the history alone -/
theorem JV.canon (h : JV g I J a no np ev ns ow pl ca ba L cnt sb) (hev : ev < 2 ^ 20) (hj : J1 I (a + 18) no ev L cnt) : ∃ B0 : BS, B0.1 ≤ 48 ∧ (∀ h2, grow (rowG no np ev ow pl L cnt (fun k => rE I (a + 18) L k) (fun k => I (a + 18 + 1) k) (gX2 I (a + 18) ev L cnt) (fun x y => decide (bfr I (a + 18) (nI ev) 0 x y)) h2) 49 (fun _ => 0) (0, fun _ => 0, fun _ => 0) = some B0) ∧ ∀ (g2 : GM) (I2 : MI) (J2 : MJ), JV g2 I2 J2 a no np ev ns ow pl ca ba L cnt sb → (∀ c, 1 ≤ c → c ≤ 12 → I2 (a + 18 + c) = I (a + 18 + c)) → (I2 a 10 = 1 → I2 a 9 = nI B0.1 ∧ ∀ i, i < B0.1 → I2 (a + 15) i = B0.2.1 i ∧ I2 (a + 16) i = B0.2.2 i) ∧ (I2 (a + 18) 30 = 1 → I2 (a + 18) 31 = nI B0.1 ∧ ∀ i, i < B0.1 → I2 (a + 18 + 24) i = B0.2.1 i ∧ I2 (a + 18 + 25) i = B0.2.2 i) := by
  -- any class's row at such a memory is the reference's of this one
  have any : ∀ (g2 : GM) (I2 : MI) (J2 : MJ), JV g2 I2 J2 a no np ev ns ow pl ca ba L cnt sb → (∀ c, 1 ≤ c → c ≤ 12 → I2 (a + 18 + c) = I (a + 18 + c)) → ∀ (E : Nat → Nat → Nat → Int32) (kd rt : Nat → Int32) (X1 : Nat → XS) (hp h1 : Nat → Nat → Int32) (der : Nat → Int64), (∀ k, k < no → (∀ i q, i < 16 → E k i q = opE I2 (sb k) i q) ∧ kd k = I2 (sb k) 5 ∧ rt k = I2 (sb k) 8 ∧ xrun (E k) (kd k) (rt k) 0 (cnt k) = some (X1 k) ∧ hp k = hmark (E k) (kd k) (rt k) 0 (cnt k) (X1 k) (X1 k).1 (h1 k)) → (∀ x, x < np → der x = J2 (a + 4) x) → ∀ (R : Nat → Nat → Nat → Int32) (kd2 : Nat → Int32) (bf : Nat → Nat → Bool) (X2 : Nat → XS) (h2 : Nat → Nat → Int32), (∀ k, k < no → eqR (rE I2 (a + 18) L k) (R k) ∧ kd2 k = I2 (a + 18 + 1) k ∧ brun (rstp (R k) (Nf L k) (kd2 k) (cnt k) (nI ev) 0) (cnt k) = some (X2 k)) → (∀ x y, x < np → y < np → bf x y = decide (bfr I2 (a + 18) (nI ev) 0 x y)) → grow (rowG no np ev ow pl L cnt R kd2 X2 bf h2) 49 (fun _ => 0) (0, fun _ => 0, fun _ => 0) = some (brw (rowD no np ow pl E kd rt X1 der hp) np 0 (fun _ => 0) (0, fun _ => 0, fun _ => 0)) := by
    intro g2 I2 J2 hI2 hc E kd rt X1 hp h1 der b1 b2 R kd2 bf X2 h2 c1 c2
    have hj2 : J1 I2 (a + 18) no ev L cnt := hj.reg hc
    have ek : ∀ k, k < no → kd2 k = kd k := fun k hk => by rw [(c1 k hk).2.1, (b1 k hk).2.1, (hI2.2.2.2.2.2.2.1 k hk).2.1]
    have hRow := hI2.rowH hev hj2 (fun k hk => ⟨(b1 k hk).1, (b1 k hk).2.1, (b1 k hk).2.2.1, (b1 k hk).2.2.2.1⟩) b2 c1 c2
    have e := row_eq hRow h1 h2 hp (fun k hk => by rw [ek k hk]; exact (b1 k hk).2.2.2.2)
    rw [e, brw_kd (fun k hk => ek k hk) (fun x hx => (hI2.2.2.1.2.2.2.1 x hx).1)]
  let E0 : Nat → Nat → Nat → Int32 := fun k => opE I (sb k)
  let B0 : BS := brw (rowD no np ow pl E0 (fun k => I (sb k) 5) (fun k => I (sb k) 8) (gX1 I sb cnt) (J (a + 4)) (fun k => hmark (opE I (sb k)) (I (sb k) 5) (I (sb k) 8) 0 (cnt k) (gX1 I sb cnt k) (gX1 I sb cnt k).1 (fun _ => 0))) np 0 (fun _ => 0) (0, fun _ => 0, fun _ => 0)
  have base : ∀ h2, grow (rowG no np ev ow pl L cnt (fun k => rE I (a + 18) L k) (fun k => I (a + 18 + 1) k) (gX2 I (a + 18) ev L cnt) (fun x y => decide (bfr I (a + 18) (nI ev) 0 x y)) h2) 49 (fun _ => 0) (0, fun _ => 0, fun _ => 0) = some B0 := fun h2 => any g I J h (fun _ _ _ => rfl) E0 _ _ _ _ (fun _ _ => 0) _ (fun k hk => ⟨fun _ _ _ => rfl, rfl, rfl, (h.xs hev hj hk).1, rfl⟩) (fun _ _ => rfl) _ _ _ _ h2 (fun k hk => ⟨fun _ _ _ => rfl, rfl, (h.xs hev hj hk).2⟩) (fun _ _ _ _ => rfl)
  refine ⟨B0, grow_le 49 _ _ _ (by decide) (base (fun _ _ => 0)), base, fun g2 I2 J2 hI2 hc => ⟨fun h10 => ?_, fun h30 => ?_⟩⟩
  · rcases hI2.2.2.2.2.2.2.2 with q | ⟨-, E, kd, rt, X1, hp, h1, der, B, b1, b2, b3, b4, b5, b6⟩
    · rw [h10] at q; exact absurd q (by decide)
    · have e := any g2 I2 J2 hI2 hc E kd rt X1 hp h1 der b1 b2 (fun k => rE I (a + 18) L k) (fun k => I (a + 18 + 1) k) (fun x y => decide (bfr I (a + 18) (nI ev) 0 x y)) (gX2 I (a + 18) ev L cnt) (fun _ _ => 0) (fun k hk => ⟨eqR_mem (fun f f1 f2 => (hc f (by omega) (by omega)).symm), by rw [hc 1 (by decide) (by decide)], (h.xs hev hj hk).2⟩) (fun x y _ _ => by
        unfold bfr
        rw [hc 11 (by decide) (by decide), hc 10 (by decide) (by decide), hc 4 (by decide) (by decide)])
      rw [base] at e
      have eB : B0 = B := by rw [b3]; exact Option.some.inj e
      rw [eB]
      exact ⟨b4, b6⟩
  · rcases hI2.2.2.2.2.1.2 with q | ⟨-, R, kd2, bf, X2, h2, B, c1, c2, c3, c4, c5, c6⟩
    · rw [h30] at q; exact absurd q (by decide)
    · have hj2 : J1 I2 (a + 18) no ev L cnt := hj.reg hc
      have e := any g2 I2 J2 hI2 hc (fun k => opE I2 (sb k)) (fun k => I2 (sb k) 5) (fun k => I2 (sb k) 8) (gX1 I2 sb cnt) (fun k => hmark (opE I2 (sb k)) (I2 (sb k) 5) (I2 (sb k) 8) 0 (cnt k) (gX1 I2 sb cnt k) (gX1 I2 sb cnt k).1 (fun _ => 0)) (fun _ _ => 0) (J2 (a + 4)) (fun k hk => ⟨fun _ _ _ => rfl, rfl, rfl, (hI2.xs hev hj2 hk).1, rfl⟩) (fun _ _ => rfl)
      have e1 := e R kd2 bf X2 h2 c1 c2
      have e2 := e (fun k => rE I (a + 18) L k) (fun k => I (a + 18 + 1) k) (fun x y => decide (bfr I (a + 18) (nI ev) 0 x y)) (gX2 I (a + 18) ev L cnt) (fun _ _ => 0) (fun k hk => ⟨eqR_mem (fun f f1 f2 => (hc f (by omega) (by omega)).symm), by rw [hc 1 (by decide) (by decide)], (h.xs hev hj hk).2⟩) (fun x y _ _ => by
        unfold bfr
        rw [hc 11 (by decide) (by decide), hc 10 (by decide) (by decide), hc 4 (by decide) (by decide)])
      rw [base] at e2
      rw [c3, ← e2] at e1
      have eB : B = B0 := Option.some.inj e1
      rw [← eB]
      exact ⟨c5, c6⟩
theorem JV.bldC (h : JV g I J a no np ev ns ow pl ca ba L cnt sb) (hev : ev < 2 ^ 20) (h9 : ∀ k, k < no → I (sb k) 9 = 1) (hj : J1 I (a + 18) no ev L cnt) : BldC g I J a (fun I2 J2 => JV g I2 J2 a no np ev ns ow pl ca ba L cnt sb ∧ (∀ b, b < a ∨ a + 18 ≤ b → b < a + 46 → I2 b = I b ∧ J2 b = J b) ∧ I2 a 10 = 1) := fun l D => by
  have hA := h.1.1
  have hns := h.2.1
  have hC := h.2.2.2.2.2.1
  rcases h.2.2.2.2.2.2.2 with q | ⟨q, -⟩
  · refine (c_LH_buildRow l D g I J (no := no) (np := np) (sb := sb) (cnt := cnt) (ow := ow) (pl := pl) (X := gX1 I sb cnt) hA hC.1 hC.2.1 h.2.2.1.2.1 (h.1.subW hns) (fun k hk => (h.2.2.2.2.2.2.1 k hk).1) (fun k hk => ⟨(h.xs hev hj hk).1, h9 k hk⟩) (fun x hx => ?_) q).mono ?_
    · obtain ⟨p1, p2, -⟩ := h.2.2.1.2.2.2.1 x hx
      have := h.2.2.1.2.2.1 _ p1
      exact ⟨(hC.2.2.2.2.1 x hx).1, p1, (hC.2.2.2.2.1 x hx).2.1, by omega⟩
    · rintro v g2 I2 J2 ⟨rfl, rfl, hp, h0, q1, B, q2, q3, q4, q5, q6, q7, q8, q9, q10⟩
      have fr : ∀ b, b ≠ a → b ≠ a + 15 → b ≠ a + 16 → b ≠ a + 17 → b < a + 46 → I2 b = I b ∧ J2 b = J b := fun b b1 b2 b3 b4 b5 => q9 b b1 b2 b3 b4 (fun k hk => Or.inl (by have := h.1.lo (show k < ns by omega); omega))
      refine ⟨rfl, rfl, h.cls (fun b b1 b2 => fr b (by omega) (by omega) (by omega) (by omega) (by omega)) (q7 11 (by decide) (by decide)) (q7 12 (by decide) (by decide)) (q7 13 (by decide) (by decide)) (by rw [q10]) (fr (a + 2) (by omega) (by omega) (by omega) (by omega) (by omega)).1 (fr (a + 3) (by omega) (by omega) (by omega) (by omega) (by omega)).1 (fr (a + 4) (by omega) (by omega) (by omega) (by omega) (by omega)).2 (fr (a + 5) (by omega) (by omega) (by omega) (by omega) (by omega)).1 (fun k hk => (h.2.2.2.2.2.2.1 k hk).ls (q8 k hk).1 (q8 k hk).2 (fun c c1 c2 => (fr _ (by omega) (by omega) (by omega) (by omega) (by omega)).1)) (Or.inr ⟨q5, fun k => opE I (sb k), fun k => I (sb k) 5, fun k => I (sb k) 8, gX1 I sb cnt, hp, h0, J (a + 4), B, fun k hk => ⟨fun i z hi => ((q8 k hk).2.op i z hi).symm, ((q8 k hk).2.1 5 (by decide) (by decide) (by decide) (by decide)).symm, ((q8 k hk).2.1 8 (by decide) (by decide) (by decide) (by decide)).symm, (h.xs hev hj hk).1, q1 k hk⟩, fun x _ => by rw [(fr (a + 4) (by omega) (by omega) (by omega) (by omega) (by omega)).2], q2, q3, q4, q6⟩), fun b b1 b2 => fr b (by omega) (by omega) (by omega) (by omega) b2, q5⟩
  · refine (c_LH_buildRow_done l D g I J hA.1 q).mono ?_
    rintro v g2 I2 J2 ⟨rfl, rfl, rfl, rfl⟩
    exact ⟨rfl, rfl, h, fun _ _ _ => ⟨rfl, rfl⟩, q⟩
theorem JV.layC (h : JV g I J a no np ev ns ow pl ca ba L cnt sb) (hev : ev < 2 ^ 20) (hj : J1 I (a + 18) no ev L cnt) (hl : rlin (rjM I (a + 18) L cnt) no 0 1 = 1) : LayC g I J (a + 18) 1 (fun I2 J2 => JV g I2 J2 a no np ev ns ow pl ca ba L cnt sb ∧ (∀ b, b < a + 18 ∨ a + 45 ≤ b → I2 b = I b ∧ J2 b = J b) ∧ (∀ c, 1 ≤ c → c ≤ 12 → I2 (a + 18 + c) = I (a + 18 + c)) ∧ I2 (a + 18) 30 = 1) := fun l D => by
  obtain ⟨m1, m2, m3, m4, m5, m6, m7, m8⟩ := h.mo
  rcases h.2.2.2.2.1.2 with q | ⟨q, -⟩
  · obtain ⟨B0, c0, c1, -⟩ := h.canon hev hj
    refine (c_Mo_lay_build l D g I J (no := no) (np := np) (L := L) (cnt := cnt) (ow := ow) (pl := pl) (X := gX2 I (a + 18) ev L cnt) m1 m2 m3 m4 (fun k hk => (h.2.2.2.2.1.1 k hk).1) m7 m8 (fun x hx => ?_) hl q (fun k hk => ?_) (fun h0 => ⟨B0, ?_⟩)).mono ?_
    · obtain ⟨p1, p2, p3⟩ := h.2.2.1.2.2.2.1 x hx
      refine ⟨(h.2.2.2.1.2.2.2.2.2 x hx).1, p1, p2, p3, fun j hj e => ?_⟩
      have := (h.2.2.1.2.2.2.2.1 _ p1 j (by omega)).2.2
      rw [e] at this
      omega
    · show brun (rstp _ _ _ _ (I (a + 18) 15) 0) _ = _
      rw [m6]
      exact (h.xs hev hj hk).2
    · rw [mkG_rowG m6]
      exact c1 h0
    · rintro v g2 I2 J2 ⟨rfl, rfl, ⟨h0, B, q1, q2, q3, q4⟩, q5, q6, q7⟩
      have hc : ∀ c, 1 ≤ c → c ≤ 12 → I2 (a + 18 + c) = I (a + 18 + c) := fun c c1 c2 => q7.1 _ (by omega) (by omega) (by omega) (by omega) (by omega) (by omega) (by omega) (by omega) (by omega) (by omega)
      obtain ⟨r1, r2⟩ := h.lk q7 (fun k hk => (q6 k hk).1) (Or.inr ⟨q5, fun k => rE I (a + 18) L k, fun k => I (a + 18 + 1) k, fun x y => decide (bfr I (a + 18) (nI ev) 0 x y), gX2 I (a + 18) ev L cnt, h0, B, fun k hk => ⟨eqR_mem (fun f f1 f2 => (hc f (by omega) (by omega)).symm), by rw [hc 1 (by decide) (by decide)], (h.xs hev hj hk).2⟩, fun x y _ _ => by
        unfold bfr
        rw [hc 11 (by decide) (by decide), hc 10 (by decide) (by decide), hc 4 (by decide) (by decide)], by rw [← mkG_rowG m6]; exact q1, q2, q3, q4⟩)
      exact ⟨rfl, rfl, r1, r2, hc, q5⟩
  · refine (c_Mo_lay_known l D g I J (no := no) (L := L) (cnt := cnt) m1 m2 m3 m4 (fun k hk => (h.2.2.2.2.1.1 k hk).1) hl q).mono ?_
    rintro v g2 I2 J2 ⟨rfl, rfl, q1, q2⟩
    obtain ⟨r1, r2⟩ := h.lkS q1 (fun k hk => (q2 k hk).1)
    exact ⟨rfl, rfl, r1, r2, fun c c1 c2 => q1.1 _ (by omega) (by omega) (by omega) (by omega) (by omega) (by omega), by rw [q1.2.1 30 (by decide) (by decide)]; exact q⟩
theorem JV.layN (h : JV g I J a no np ev ns ow pl ca ba L cnt sb) (hl : rlin (rjM I (a + 18) L cnt) no 0 1 ≠ 1) : LayC g I J (a + 18) 0 (fun I2 J2 => JV g I2 J2 a no np ev ns ow pl ca ba L cnt sb ∧ ∀ b, b < a + 18 ∨ a + 45 ≤ b → I2 b = I b ∧ J2 b = J b) := fun l D => by
  obtain ⟨m1, m2, m3, m4, m5, m6, m7, m8⟩ := h.mo
  refine (c_Mo_lay_not l D g I J (no := no) (L := L) (cnt := cnt) m1 m2 m3 m4 (fun k hk => (h.2.2.2.2.1.1 k hk).1) hl).mono ?_
  rintro v g2 I2 J2 ⟨rfl, rfl, q1, q2⟩
  obtain ⟨r1, r2⟩ := h.lkS q1 (fun k hk => (q2 k hk).1)
  exact ⟨rfl, rfl, r1, r2⟩
theorem JV.linC (h : JV g I J a no np ev ns ow pl ca ba L cnt sb) {z : Int32} (hz : linA (jM I sb cnt) no 0 1 = z) : LinC g I J a z (fun I2 J2 => JV g I2 J2 a no np ev ns ow pl ca ba L cnt sb ∧ (∀ b, (b < a + 6 ∨ a + 15 ≤ b) → b < a + 46 → I2 b = I b ∧ J2 b = J b) ∧ (z ≠ 0 → ∀ k, k < no → I2 (sb k) 9 = 1)) := fun l D => by
  refine (c_LH_linear l D g I J (no := no) (sb := sb) (cnt := cnt) h.1.1 h.2.2.2.2.2.1.1 (h.1.subW h.2.1) (fun k hk => (h.2.2.2.2.2.2.1 k hk).1)).mono ?_
  rintro v g2 I2 J2 hq
  obtain ⟨r1, r2, r3, r4⟩ := h.lin hq
  refine ⟨by rw [hq.2.1, hz], r1, r2, r3, fun e => r4 (by rw [hz]; exact e)⟩
theorem rl_congr {m : Nat} (h1 : ∀ c, 1 ≤ c → c ≤ 12 → I2 (m + c) = I (m + c)) (e15 : I2 m 15 = I m 15) : rlin (rjM I2 m L cnt) no 0 1 = rlin (rjM I m L cnt) no 0 1 := by
  have e : rjM I2 m L cnt = rjM I m L cnt := funext fun k => by
    show rjd _ _ _ _ _ _ = rjd _ _ _ _ _ _
    rw [h1 1 (by decide) (by decide), e15, rjd_congr (eqR_mem (fun f f1 f2 => h1 f (by omega) (by omega)))]
  rw [e]
end QS
def OutC (s0 len : Nat) (scr : Nat → Int32) (a it : Nat) (CL : (Option Value → GM → MI → MJ → Prop) → Prop) (CMo : GM → MI → MJ → (Option Value → GM → MI → MJ → Prop) → Prop) : Prop := ∃ P1, CL P1 ∧ ∀ v g2 I2 J2, P1 v g2 I2 J2 → ∃ z, v = some (.int z) ∧ g2.1 (a + 18) = (6, 0) ∧ ∃ P2, CMo g2 I2 J2 P2 ∧ ∀ v3 g3 I3 J3, P2 v3 g3 I3 J3 → v3 = some (.int z) ∧ JX s0 len scr g3 I3 J3 a (it + 1)
theorem s_linear {s0 len a it : Nat} {scr : Nat → Int32} {g : GM} {I : MI} {J : MJ} (hJ : JX s0 len scr g I J a it) (hit : it < 2 ^ 19) : OutC s0 len scr a it (fun P => ∀ (l : Launch) (D : va_G), Ct l yLH_linear bLH_linear 4 (some .int) (rmN 6 149) D [.ref a] g I J P) (fun g2 I2 J2 P => ∀ (l : Launch) (D : va_G), Ct l yMo_linear bMo_linear 1 (some .int) (rmN 7 181) D [.ref (a + 18)] g2 I2 J2 P) := by
  obtain ⟨h0, hs, hg, no, np, ev, ns, ow, pl, ca, ba, L, cnt, sb, h, hev⟩ := hJ
  refine ⟨_, h.linC rfl, ?_⟩
  rintro v g2 I2 J2 ⟨rfl, rfl, h2, fr, -⟩
  obtain ⟨m1, m2, m3, m4, m5, m6, -⟩ := h2.mo
  refine ⟨_, rfl, m1.1, _, fun l D => c_Mo_linear l D g2 I2 J2 (no := no) (L := L) (cnt := cnt) m1 m2 m3 m4 (fun k hk => (h2.2.2.2.2.1.1 k hk).1), ?_⟩
  rintro v3 g3 I3 J3 ⟨rfl, rfl, q1, q2⟩
  obtain ⟨r1, r2⟩ := (h2.m0 0).lkS q1 (fun k hk => (q2 k hk).1)
  refine ⟨?_, h0, by rw [(r2 _ (by omega)).1, s2_off (by omega), (fr _ (by omega) (by omega)).1]; exact hs, hg, no, np, ev, ns, ow, pl, ca, ba, L, cnt, sb, r1, by omega⟩
  rw [h.linEq (by omega), rl_congr (I2 := s2 I2 (a + 18) 0 0) (I := I) (fun c c1 c2 => by rw [s2_off (by omega), (fr _ (by omega) (by omega)).1]) (by rw [s2_k (by decide), (fr _ (by omega) (by omega)).1])]
theorem JV.bld2 {g : GM} {I : MI} {J : MJ} {a no np ev ns : Nat} {ow pl ca ba L cnt sb : Nat → Nat} (hev : ev < 2 ^ 20) (hj : J1 I (a + 18) no ev L cnt) {I2 : MI} {J2 : MJ} (q : JV g I2 J2 a no np ev ns ow pl ca ba L cnt sb ∧ (∀ b, (b < a + 6 ∨ a + 15 ≤ b) → b < a + 46 → I2 b = I b ∧ J2 b = J b) ∧ ((1 : Int32) ≠ 0 → ∀ k, k < no → I2 (sb k) 9 = 1)) : BldC g I2 J2 a (fun I3 J3 => JV g I3 J3 a no np ev ns ow pl ca ba L cnt sb ∧ (∀ b, b < a ∨ a + 18 ≤ b → b < a + 46 → I3 b = I b ∧ J3 b = J b) ∧ I3 a 10 = 1) := fun l D => (q.1.bldC hev (q.2.2 (by decide)) (hj.reg (fun c c1 c2 => (q.2.1 _ (by omega) (by omega)).1)) l D).mono (fun v g2 I3 J3 w => ⟨w.1, w.2.1, w.2.2.1, fun b b1 b2 => ⟨(w.2.2.2.1 b b1 b2).1.trans (q.2.1 b (by omega) b2).1, (w.2.2.2.1 b b1 b2).2.trans (q.2.1 b (by omega) b2).2⟩, w.2.2.2.2⟩)
theorem s_length {s0 len a it : Nat} {scr : Nat → Int32} {g : GM} {I : MI} {J : MJ} (hJ : JX s0 len scr g I J a it) (hit : it < 2 ^ 19) : OutI s0 len scr a it (fun P => ∀ (l : Launch) (D : va_G), CtW l yLa_length bLa_length 3 (some .int) [(0, 8, 11, 19)] rmW D [.ref a, .ref (a + 45)] g I J P) (fun g2 I2 J2 P => ∀ (l : Launch) (D : va_G), Ct l yMo_length bMo_length 1 (some .int) (rmN 8 202) D [.ref (a + 18)] g2 I2 J2 P) := by
  obtain ⟨h0, hs, hg, no, np, ev, ns, ow, pl, ca, ba, L, cnt, sb, h, hev⟩ := hJ
  have a0 := h.1.1.1
  have ho := h.1.2.2.1
  have hle := h.linEq (by omega)
  have hev2 : ev < 2 ^ 20 := by omega
  by_cases hz : linA (jM I sb cnt) no 0 1 = 1
  · have hl1 : rlin (rjM I (a + 18) L cnt) no 0 1 = 1 := by rw [← hle]; exact hz
    have hj := h.j1 hl1
    obtain ⟨B0, c0, -, c1⟩ := h.canon hev2 hj
    refine ⟨_, fun l D => w_length_r l D g I J a0 (fun l D => c_LH_length l D g I J a0 (h.linC hz) (fun I2 J2 q => JV.bld2 hev2 hj q)) (fun v g2 I2 J2 q => ⟨⟨_, q.2.2⟩, by rw [q.1]; exact ho⟩) (by decide) (by decide) (by decide) (by decide), ?_⟩
    rintro v g2 I2 J2 ⟨rfl, z, J1', ⟨rfl, ⟨h2, fr, h10⟩, hzv⟩, rfl⟩
    have hc : ∀ c, 1 ≤ c → c ≤ 12 → I2 (a + 18 + c) = I (a + 18 + c) := fun c c1 c2 => (fr _ (by omega) (by omega)).1
    have h2 := h2.out z.toInt64
    have hl2 : rlin (rjM I2 (a + 18) L cnt) no 0 1 = 1 := by rw [rl_congr hc (by rw [(fr _ (by omega) (by omega)).1])]; exact hl1
    obtain ⟨m1, -⟩ := h2.mo
    refine ⟨0, rfl, by rw [(fr _ (by omega) (by omega)).1]; exact hs, hg, m1.1, ho, _, fun l D => c_Mo_length_1 l D g2 I2 _ m1 (h2.layC hev2 (hj.reg hc) hl2), ?_⟩
    rintro v3 g3 I3 J3 ⟨rfl, I3', ⟨h3, hb3, hc3, h30⟩, rfl, rfl⟩
    refine ⟨_, rfl, s2_self _ _ _ _, fun _ => ?_, h0, by rw [s2_off (by omega), (hb3 _ (by omega)).1, (fr _ (by omega) (by omega)).1]; exact hs, hg, no, np, ev, ns, ow, pl, ca, ba, L, cnt, sb, h3.m0 0, by omega⟩
    have ez : z = I2 a 9 := by
      injection hzv with hzv
      injection hzv
    subst ez
    rw [(hb3 _ (by omega)).2, s2_self, ((c1 _ _ _ h2 hc).1 h10).1, ((c1 _ _ _ h3 (fun c x1 x2 => (hc3 c x1 x2).trans (hc c x1 x2))).2 h30).1]
  · have hl1 : rlin (rjM I (a + 18) L cnt) no 0 1 ≠ 1 := by rw [← hle]; exact hz
    refine ⟨_, fun l D => w_length_t1 l D g I J a0 (fun l D => t_LH_length l D g I J a0 hz (h.linC rfl)) (fun E g2 I2 J2 q => q.1) (by decide) (by decide) (by decide) (by decide), ?_⟩
    rintro v g2 I2 J2 ⟨rfl, -, q1, q2, q3, h2, fr, -⟩
    have h2 := h2.g q1 q2 q3
    have hc : ∀ c, 1 ≤ c → c ≤ 12 → I2 (a + 18 + c) = I (a + 18 + c) := fun c c1 c2 => (fr _ (by omega) (by omega)).1
    have hl2 : rlin (rjM I2 (a + 18) L cnt) no 0 1 ≠ 1 := by rw [rl_congr hc (by rw [(fr _ (by omega) (by omega)).1])]; exact hl1
    obtain ⟨m1, -⟩ := h2.mo
    refine ⟨1, rfl, by rw [(fr _ (by omega) (by omega)).1]; exact hs, by rw [q1]; exact hg, m1.1, by rw [q1]; exact ho, _, fun l D => c_Mo_length_0 l D g2 I2 _ m1 (h2.layN hl2), ?_⟩
    rintro v3 g3 I3 J3 ⟨rfl, I3', ⟨h3, hb3⟩, rfl, rfl⟩
    exact ⟨_, rfl, s2_self _ _ _ _, fun e => absurd e (by decide), h0, by rw [s2_off (by omega), (hb3 _ (by omega)).1, (fr _ (by omega) (by omega)).1]; exact hs, by rw [q1]; exact hg, no, np, ev, ns, ow, pl, ca, ba, L, cnt, sb, h3.m0 1, by omega⟩
theorem s_row {s0 len a it : Nat} {scr : Nat → Int32} {g : GM} {I : MI} {J : MJ} (hJ : JX s0 len scr g I J a it) (hit : it < 2 ^ 19) (p0 : Int32) : OutI s0 len scr a it (fun P => ∀ (l : Launch) (D : va_G), CtW l yLa_row bLa_row 4 (some .int) [(0, 9, 12, 19), (0, 9, 15, 55)] rmW D [.ref a, .int p0, .ref (a + 45)] g I J P) (fun g2 I2 J2 P => ∀ (l : Launch) (D : va_G), Ct l yMo_row bMo_row 2 (some .int) (rmN 8 202) D [.ref (a + 18), .int p0] g2 I2 J2 P) := by
  obtain ⟨h0, hs, hg, no, np, ev, ns, ow, pl, ca, ba, L, cnt, sb, h, hev⟩ := hJ
  have a0 := h.1.1.1
  have ho := h.1.2.2.1
  have hle := h.linEq (by omega)
  have hev2 : ev < 2 ^ 20 := by omega
  by_cases hz : linA (jM I sb cnt) no 0 1 = 1
  · have hl1 : rlin (rjM I (a + 18) L cnt) no 0 1 = 1 := by rw [← hle]; exact hz
    have hj := h.j1 hl1
    obtain ⟨B0, c0, -, c1⟩ := h.canon hev2 hj
    have at2 : ∀ (g2 : GM) (I2 : MI) (J2 : MJ), JV g2 I2 J2 a no np ev ns ow pl ca ba L cnt sb → (∀ c, 1 ≤ c → c ≤ 12 → I2 (a + 18 + c) = I (a + 18 + c)) → LayC g2 I2 J2 (a + 18) 1 (fun I3 J3 => JV g2 I3 J3 a no np ev ns ow pl ca ba L cnt sb ∧ (∀ b, b < a + 18 ∨ a + 45 ≤ b → I3 b = I2 b ∧ J3 b = J2 b) ∧ (∀ c, 1 ≤ c → c ≤ 12 → I3 (a + 18 + c) = I2 (a + 18 + c)) ∧ I3 (a + 18) 30 = 1) := fun g2 I2 J2 h2 hc => h2.layC hev2 (hj.reg hc) (by rw [rl_congr hc (by rw [h2.mo.2.2.2.2.2.1, h.mo.2.2.2.2.2.1])]; exact hl1)
    have hq1 : ∀ (g2 : GM) (I2 : MI) (J2 : MJ), (∀ c, 1 ≤ c → c ≤ 12 → I2 (a + 18 + c) = I (a + 18 + c)) → ∀ I3 J3, (JV g2 I3 J3 a no np ev ns ow pl ca ba L cnt sb ∧ (∀ b, b < a + 18 ∨ a + 45 ≤ b → I3 b = I2 b ∧ J3 b = J2 b) ∧ (∀ c, 1 ≤ c → c ≤ 12 → I3 (a + 18 + c) = I2 (a + 18 + c)) ∧ I3 (a + 18) 30 = 1) → I3 (a + 18) 31 = nI B0.1 ∧ ∀ i, i < B0.1 → I3 (a + 18 + 24) i = B0.2.1 i ∧ I3 (a + 18 + 25) i = B0.2.2 i := fun g2 I2 J2 hc I3 J3 q => (c1 _ _ _ q.1 (fun c x1 x2 => (q.2.2.1 c x1 x2).trans (hc c x1 x2))).2 q.2.2.2
    by_cases hr : p0 < 0 ∨ nI B0.1 ≤ p0
    · refine ⟨_, fun l D => w_row_t2 l D g I J p0 a0 (fun l D => t_LH_row_i l D g I J p0 a0 (h.linC hz) (fun I2 J2 q => JV.bld2 hev2 hj q) (fun I2 J2 q => by rw [((c1 _ _ _ q.1 (fun c x1 x2 => (q.2.1 _ (by omega) (by omega)).1)).1 q.2.2).1]; exact hr)) (fun E g2 I2 J2 q => q.1) (by decide) (by decide) (by decide) (by decide), ?_⟩
      rintro v g2 I2 J2 ⟨rfl, -, q1, q2, q3, h2, fr, h10⟩
      have hc : ∀ c, 1 ≤ c → c ≤ 12 → I2 (a + 18 + c) = I (a + 18 + c) := fun c c1 c2 => (fr _ (by omega) (by omega)).1
      have h2 := h2.g q1 q2 q3
      obtain ⟨m1, -⟩ := h2.mo
      refine ⟨2, rfl, by rw [(fr _ (by omega) (by omega)).1]; exact hs, by rw [q1]; exact hg, m1.1, by rw [q1]; exact ho, _, fun l D => c_Mo_row_1 l D g2 I2 _ p0 m1 (at2 _ _ _ h2 hc) (fun I3 J3 q => ⟨B0.1, c0, (hq1 g2 I2 J2 hc I3 J3 q).1⟩), ?_⟩
      rintro v3 g3 I3 J3 ⟨rfl, I3', q, w⟩
      have e31 := (hq1 _ I2 J2 hc I3' J3 q).1
      obtain ⟨h3, hb3, hc3, h30⟩ := q
      rcases w with ⟨w1, rfl, rfl⟩ | ⟨w1, -, -⟩
      · exact ⟨_, rfl, s2_self _ _ _ _, fun e => absurd e (by decide), h0, by rw [s2_off (by omega), (hb3 _ (by omega)).1, (fr _ (by omega) (by omega)).1]; exact hs, by rw [q1]; exact hg, no, np, ev, ns, ow, pl, ca, ba, L, cnt, sb, h3.m0 2, by omega⟩
      · rw [e31] at w1
        exact absurd hr w1
    · obtain ⟨ii, hi1, hi2⟩ := nI_of (fun q => hr (Or.inl q))
      subst hi2
      have hi : ii < B0.1 := by
        rcases Nat.lt_or_ge ii B0.1 with q | q
        · exact q
        · exact absurd (Or.inr (nI_le q hi1)) hr
      have eix : ix (nI ii) = ii := nI_clamp hi1
      refine ⟨_, fun l D => w_row_r l D g I J (nI ii) a0 (fun l D => c_LH_row l D g I J h.1.1 (h.linC hz) (fun I2 J2 q => JV.bld2 hev2 hj q) (fun I2 J2 q => ⟨B0.1, c0, ((c1 _ _ _ q.1 (fun c x1 x2 => (q.2.1 _ (by omega) (by omega)).1)).1 q.2.2).1, hi⟩)) (fun v g2 I2 J2 q => ⟨⟨_, q.2.2⟩, by rw [q.1]; exact ho⟩) (by decide) (by decide) (by decide) (by decide), ?_⟩
      rintro v g2 I2 J2 ⟨rfl, z, J1', ⟨rfl, ⟨h2, fr, h10⟩, hzv⟩, rfl⟩
      have hc : ∀ c, 1 ≤ c → c ≤ 12 → I2 (a + 18 + c) = I (a + 18 + c) := fun c c1 c2 => (fr _ (by omega) (by omega)).1
      have h2 := h2.out z.toInt64
      obtain ⟨m1, -⟩ := h2.mo
      refine ⟨0, rfl, by rw [(fr _ (by omega) (by omega)).1]; exact hs, hg, m1.1, ho, _, fun l D => c_Mo_row_1 l D g2 I2 _ (nI ii) m1 (at2 _ _ _ h2 hc) (fun I3 J3 q => ⟨B0.1, c0, (hq1 g2 I2 _ hc I3 J3 q).1⟩), ?_⟩
      rintro v3 g3 I3 J3 ⟨rfl, I3', q, w⟩
      have e31 := hq1 _ I2 _ hc I3' J3 q
      obtain ⟨h3, hb3, hc3, h30⟩ := q
      rcases w with ⟨w1, -, -⟩ | ⟨w1, rfl, rfl⟩
      · rw [e31.1] at w1
        exact absurd w1 hr
      · refine ⟨_, rfl, s2_self _ _ _ _, fun _ => ?_, h0, by rw [s2_off (by omega), (hb3 _ (by omega)).1, (fr _ (by omega) (by omega)).1]; exact hs, hg, no, np, ev, ns, ow, pl, ca, ba, L, cnt, sb, h3.m0 0, by omega⟩
        have ez : z = I2 (a + 15) ii := by
          injection hzv with hzv
          injection hzv
        subst ez
        rw [(hb3 _ (by omega)).2, s2_self, (((c1 _ _ _ h2 hc).1 h10).2 ii hi).1, eix, (e31.2 ii hi).1]
  · have hl1 : rlin (rjM I (a + 18) L cnt) no 0 1 ≠ 1 := by rw [← hle]; exact hz
    refine ⟨_, fun l D => w_row_t1 l D g I J p0 a0 (fun l D => t_LH_row_l l D g I J p0 a0 hz (h.linC rfl)) (fun E g2 I2 J2 q => q.1) (by decide) (by decide) (by decide) (by decide), ?_⟩
    rintro v g2 I2 J2 ⟨rfl, -, q1, q2, q3, h2, fr, -⟩
    have h2 := h2.g q1 q2 q3
    have hc : ∀ c, 1 ≤ c → c ≤ 12 → I2 (a + 18 + c) = I (a + 18 + c) := fun c c1 c2 => (fr _ (by omega) (by omega)).1
    have hl2 : rlin (rjM I2 (a + 18) L cnt) no 0 1 ≠ 1 := by rw [rl_congr hc (by rw [(fr _ (by omega) (by omega)).1])]; exact hl1
    obtain ⟨m1, -⟩ := h2.mo
    refine ⟨1, rfl, by rw [(fr _ (by omega) (by omega)).1]; exact hs, by rw [q1]; exact hg, m1.1, by rw [q1]; exact ho, _, fun l D => c_Mo_row_0 l D g2 I2 _ p0 m1 (h2.layN hl2), ?_⟩
    rintro v3 g3 I3 J3 ⟨rfl, I3', ⟨h3, hb3⟩, rfl, rfl⟩
    exact ⟨_, rfl, s2_self _ _ _ _, fun e => absurd e (by decide), h0, by rw [s2_off (by omega), (hb3 _ (by omega)).1, (fr _ (by omega) (by omega)).1]; exact hs, by rw [q1]; exact hg, no, np, ev, ns, ow, pl, ca, ba, L, cnt, sb, h3.m0 1, by omega⟩
theorem s_result {s0 len a it : Nat} {scr : Nat → Int32} {g : GM} {I : MI} {J : MJ} (hJ : JX s0 len scr g I J a it) (hit : it < 2 ^ 19) (p0 : Int32) : OutI s0 len scr a it (fun P => ∀ (l : Launch) (D : va_G), CtW l yLa_result bLa_result 4 (some .int) [(0, 9, 12, 19), (0, 9, 15, 55)] rmW D [.ref a, .int p0, .ref (a + 45)] g I J P) (fun g2 I2 J2 P => ∀ (l : Launch) (D : va_G), Ct l yMo_result bMo_result 2 (some .int) (rmN 8 202) D [.ref (a + 18), .int p0] g2 I2 J2 P) := by
  obtain ⟨h0, hs, hg, no, np, ev, ns, ow, pl, ca, ba, L, cnt, sb, h, hev⟩ := hJ
  have a0 := h.1.1.1
  have ho := h.1.2.2.1
  have hle := h.linEq (by omega)
  have hev2 : ev < 2 ^ 20 := by omega
  by_cases hz : linA (jM I sb cnt) no 0 1 = 1
  · have hl1 : rlin (rjM I (a + 18) L cnt) no 0 1 = 1 := by rw [← hle]; exact hz
    have hj := h.j1 hl1
    obtain ⟨B0, c0, -, c1⟩ := h.canon hev2 hj
    have at2 : ∀ (g2 : GM) (I2 : MI) (J2 : MJ), JV g2 I2 J2 a no np ev ns ow pl ca ba L cnt sb → (∀ c, 1 ≤ c → c ≤ 12 → I2 (a + 18 + c) = I (a + 18 + c)) → LayC g2 I2 J2 (a + 18) 1 (fun I3 J3 => JV g2 I3 J3 a no np ev ns ow pl ca ba L cnt sb ∧ (∀ b, b < a + 18 ∨ a + 45 ≤ b → I3 b = I2 b ∧ J3 b = J2 b) ∧ (∀ c, 1 ≤ c → c ≤ 12 → I3 (a + 18 + c) = I2 (a + 18 + c)) ∧ I3 (a + 18) 30 = 1) := fun g2 I2 J2 h2 hc => h2.layC hev2 (hj.reg hc) (by rw [rl_congr hc (by rw [h2.mo.2.2.2.2.2.1, h.mo.2.2.2.2.2.1])]; exact hl1)
    have hq1 : ∀ (g2 : GM) (I2 : MI) (J2 : MJ), (∀ c, 1 ≤ c → c ≤ 12 → I2 (a + 18 + c) = I (a + 18 + c)) → ∀ I3 J3, (JV g2 I3 J3 a no np ev ns ow pl ca ba L cnt sb ∧ (∀ b, b < a + 18 ∨ a + 45 ≤ b → I3 b = I2 b ∧ J3 b = J2 b) ∧ (∀ c, 1 ≤ c → c ≤ 12 → I3 (a + 18 + c) = I2 (a + 18 + c)) ∧ I3 (a + 18) 30 = 1) → I3 (a + 18) 31 = nI B0.1 ∧ ∀ i, i < B0.1 → I3 (a + 18 + 24) i = B0.2.1 i ∧ I3 (a + 18 + 25) i = B0.2.2 i := fun g2 I2 J2 hc I3 J3 q => (c1 _ _ _ q.1 (fun c x1 x2 => (q.2.2.1 c x1 x2).trans (hc c x1 x2))).2 q.2.2.2
    by_cases hr : p0 < 0 ∨ nI B0.1 ≤ p0
    · refine ⟨_, fun l D => w_result_t2 l D g I J p0 a0 (fun l D => t_LH_result_i l D g I J p0 a0 (h.linC hz) (fun I2 J2 q => JV.bld2 hev2 hj q) (fun I2 J2 q => by rw [((c1 _ _ _ q.1 (fun c x1 x2 => (q.2.1 _ (by omega) (by omega)).1)).1 q.2.2).1]; exact hr)) (fun E g2 I2 J2 q => q.1) (by decide) (by decide) (by decide) (by decide), ?_⟩
      rintro v g2 I2 J2 ⟨rfl, -, q1, q2, q3, h2, fr, h10⟩
      have hc : ∀ c, 1 ≤ c → c ≤ 12 → I2 (a + 18 + c) = I (a + 18 + c) := fun c c1 c2 => (fr _ (by omega) (by omega)).1
      have h2 := h2.g q1 q2 q3
      obtain ⟨m1, -⟩ := h2.mo
      refine ⟨2, rfl, by rw [(fr _ (by omega) (by omega)).1]; exact hs, by rw [q1]; exact hg, m1.1, by rw [q1]; exact ho, _, fun l D => c_Mo_result_1 l D g2 I2 _ p0 m1 (at2 _ _ _ h2 hc) (fun I3 J3 q => ⟨B0.1, c0, (hq1 g2 I2 J2 hc I3 J3 q).1⟩), ?_⟩
      rintro v3 g3 I3 J3 ⟨rfl, I3', q, w⟩
      have e31 := (hq1 _ I2 J2 hc I3' J3 q).1
      obtain ⟨h3, hb3, hc3, h30⟩ := q
      rcases w with ⟨w1, rfl, rfl⟩ | ⟨w1, -, -⟩
      · exact ⟨_, rfl, s2_self _ _ _ _, fun e => absurd e (by decide), h0, by rw [s2_off (by omega), (hb3 _ (by omega)).1, (fr _ (by omega) (by omega)).1]; exact hs, by rw [q1]; exact hg, no, np, ev, ns, ow, pl, ca, ba, L, cnt, sb, h3.m0 2, by omega⟩
      · rw [e31] at w1
        exact absurd hr w1
    · obtain ⟨ii, hi1, hi2⟩ := nI_of (fun q => hr (Or.inl q))
      subst hi2
      have hi : ii < B0.1 := by
        rcases Nat.lt_or_ge ii B0.1 with q | q
        · exact q
        · exact absurd (Or.inr (nI_le q hi1)) hr
      have eix : ix (nI ii) = ii := nI_clamp hi1
      refine ⟨_, fun l D => w_result_r l D g I J (nI ii) a0 (fun l D => c_LH_result l D g I J h.1.1 (h.linC hz) (fun I2 J2 q => JV.bld2 hev2 hj q) (fun I2 J2 q => ⟨B0.1, c0, ((c1 _ _ _ q.1 (fun c x1 x2 => (q.2.1 _ (by omega) (by omega)).1)).1 q.2.2).1, hi⟩)) (fun v g2 I2 J2 q => ⟨⟨_, q.2.2⟩, by rw [q.1]; exact ho⟩) (by decide) (by decide) (by decide) (by decide), ?_⟩
      rintro v g2 I2 J2 ⟨rfl, z, J1', ⟨rfl, ⟨h2, fr, h10⟩, hzv⟩, rfl⟩
      have hc : ∀ c, 1 ≤ c → c ≤ 12 → I2 (a + 18 + c) = I (a + 18 + c) := fun c c1 c2 => (fr _ (by omega) (by omega)).1
      have h2 := h2.out z.toInt64
      obtain ⟨m1, -⟩ := h2.mo
      refine ⟨0, rfl, by rw [(fr _ (by omega) (by omega)).1]; exact hs, hg, m1.1, ho, _, fun l D => c_Mo_result_1 l D g2 I2 _ (nI ii) m1 (at2 _ _ _ h2 hc) (fun I3 J3 q => ⟨B0.1, c0, (hq1 g2 I2 _ hc I3 J3 q).1⟩), ?_⟩
      rintro v3 g3 I3 J3 ⟨rfl, I3', q, w⟩
      have e31 := hq1 _ I2 _ hc I3' J3 q
      obtain ⟨h3, hb3, hc3, h30⟩ := q
      rcases w with ⟨w1, -, -⟩ | ⟨w1, rfl, rfl⟩
      · rw [e31.1] at w1
        exact absurd w1 hr
      · refine ⟨_, rfl, s2_self _ _ _ _, fun _ => ?_, h0, by rw [s2_off (by omega), (hb3 _ (by omega)).1, (fr _ (by omega) (by omega)).1]; exact hs, hg, no, np, ev, ns, ow, pl, ca, ba, L, cnt, sb, h3.m0 0, by omega⟩
        have ez : z = I2 (a + 16) ii := by
          injection hzv with hzv
          injection hzv
        subst ez
        rw [(hb3 _ (by omega)).2, s2_self, (((c1 _ _ _ h2 hc).1 h10).2 ii hi).2, eix, (e31.2 ii hi).2]
  · have hl1 : rlin (rjM I (a + 18) L cnt) no 0 1 ≠ 1 := by rw [← hle]; exact hz
    refine ⟨_, fun l D => w_result_t1 l D g I J p0 a0 (fun l D => t_LH_result_l l D g I J p0 a0 hz (h.linC rfl)) (fun E g2 I2 J2 q => q.1) (by decide) (by decide) (by decide) (by decide), ?_⟩
    rintro v g2 I2 J2 ⟨rfl, -, q1, q2, q3, h2, fr, -⟩
    have h2 := h2.g q1 q2 q3
    have hc : ∀ c, 1 ≤ c → c ≤ 12 → I2 (a + 18 + c) = I (a + 18 + c) := fun c c1 c2 => (fr _ (by omega) (by omega)).1
    have hl2 : rlin (rjM I2 (a + 18) L cnt) no 0 1 ≠ 1 := by rw [rl_congr hc (by rw [(fr _ (by omega) (by omega)).1])]; exact hl1
    obtain ⟨m1, -⟩ := h2.mo
    refine ⟨1, rfl, by rw [(fr _ (by omega) (by omega)).1]; exact hs, by rw [q1]; exact hg, m1.1, by rw [q1]; exact ho, _, fun l D => c_Mo_result_0 l D g2 I2 _ p0 m1 (h2.layN hl2), ?_⟩
    rintro v3 g3 I3 J3 ⟨rfl, I3', ⟨h3, hb3⟩, rfl, rfl⟩
    exact ⟨_, rfl, s2_self _ _ _ _, fun e => absurd e (by decide), h0, by rw [s2_off (by omega), (hb3 _ (by omega)).1, (fr _ (by omega) (by omega)).1]; exact hs, by rw [q1]; exact hg, no, np, ev, ns, ow, pl, ca, ba, L, cnt, sb, h3.m0 1, by omega⟩
