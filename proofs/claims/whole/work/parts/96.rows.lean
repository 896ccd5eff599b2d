/-! ALL OBJECTS AT ONCE: linear(), and the row -/
theorem OD.eqR {E R R2 : Nat → Nat → Int32} {N : Nat → Nat} {kind ret : Int32} {n cnt : Nat} {until_ : Int32} (h : OD E R N kind ret n cnt until_) (hr : eqR R R2) : OD E R2 N kind ret n cnt until_ := by
  have e4 : ∀ i, R2 i 4 = R i 4 := fun i => hr.at i 4 (by decide) (by decide)
  have e6 : ∀ i, R2 i 6 = R i 6 := fun i => hr.at i 6 (by decide) (by decide)
  have e7 : ∀ i, R2 i 7 = R i 7 := fun i => hr.at i 7 (by decide) (by decide)
  have e8 : ∀ i, R2 i 8 = R i 8 := fun i => hr.at i 8 (by decide) (by decide)
  have e9 : ∀ i, R2 i 9 = R i 9 := fun i => hr.at i 9 (by decide) (by decide)
  have e10 : ∀ i, R2 i 10 = R i 10 := fun i => hr.at i 10 (by decide) (by decide)
  have e11 : ∀ i, R2 i 11 = R i 11 := fun i => hr.at i 11 (by decide) (by decide)
  unfold OD OpR at h ⊢
  simp only [e4, e6, e7, e8, e9, e10, e11]
  exact h
theorem EV.eqR {R R2 : Nat → Nat → Int32} {cnt ev : Nat} {ca ba : Nat → Nat} (h : EV R cnt ev ca ba) (hr : eqR R R2) : EV R2 cnt ev ca ba := by
  have e10 : ∀ i, R2 i 10 = R i 10 := fun i => hr.at i 10 (by decide) (by decide)
  have e11 : ∀ i, R2 i 11 = R i 11 := fun i => hr.at i 11 (by decide) (by decide)
  unfold EV at h ⊢
  simp only [e10, e11]
  exact h
theorem brw_kd {no np : Nat} {ow pl : Nat → Nat} {E : Nat → Nat → Nat → Int32} {kd kd2 rt : Nat → Int32} {X : Nat → XS} {der : Nat → Int64} {hp : Nat → Nat → Int32} (hk : ∀ k, k < no → kd2 k = kd k) (how : ∀ x, x < np → ow x < no) : ∀ (m : Nat) (placed : Int64) (rc : Nat → Nat) (b : BS), brw (rowD no np ow pl E kd2 rt X der hp) m placed rc b = brw (rowD no np ow pl E kd rt X der hp) m placed rc b
  | 0, _, _, _ => rfl
  | m + 1, placed, rc, b => by
    have e1 : fstC (cnd (rowD no np ow pl E kd2 rt X der hp) placed rc) np 0 = fstC (cnd (rowD no np ow pl E kd rt X der hp) placed rc) np 0 := fstC_congr np 0 (fun x _ hx => by
      unfold cnd
      show (if _ then (match stp (E (ow x)) (kd2 (ow x)) _ _ _ _ _ with | none => _ | some c => _) else none) = if _ then (match stp (E (ow x)) (kd (ow x)) _ _ _ _ _ with | none => _ | some c => _) else none
      rw [hk _ (how x (by omega))])
    have e2 : allA (endE (rowD no np ow pl E kd2 rt X der hp) rc) no 0 = allA (endE (rowD no np ow pl E kd rt X der hp) rc) no 0 := rfl
    simp only [brw]
    show (if allA (endE (rowD no np ow pl E kd2 rt X der hp) rc) no 0 ≠ 0 then b else match fstC (cnd (rowD no np ow pl E kd2 rt X der hp) placed rc) np 0 with | none => b | some (i, t, res) => brw (rowD no np ow pl E kd2 rt X der hp) m (placed ||| jshl 1 (nI i)) (upF rc (ow i) t) (b.1 + 1, upF b.2.1 b.1 (nI i), upF b.2.2 b.1 res)) = if allA (endE (rowD no np ow pl E kd rt X der hp) rc) no 0 ≠ 0 then b else match fstC (cnd (rowD no np ow pl E kd rt X der hp) placed rc) np 0 with | none => b | some (i, t, res) => brw (rowD no np ow pl E kd rt X der hp) m (placed ||| jshl 1 (nI i)) (upF rc (ow i) t) (b.1 + 1, upF b.2.1 b.1 (nI i), upF b.2.2 b.1 res)
    rw [e1, e2]
    split
    · rfl
    · split
      · rfl
      · exact brw_kd hk how m _ _ _
section QR
variable {g : GM} {I I2 : MI} {J J2 : MJ} {a no np ev ns : Nat} {ow pl ca ba L cnt sb : Nat → Nat}
theorem JV.linEq (h : JV g I J a no np ev ns ow pl ca ba L cnt sb) (hev : ev < 2 ^ 20) : linA (jM I sb cnt) no 0 1 = rlin (rjM I (a + 18) L cnt) no 0 1 := by
  refine lin_eq no 0 1 (Or.inl rfl) (fun k _ hk => ?_)
  have hk : k < no := by omega
  obtain ⟨-, o2, o3, -⟩ := h.2.2.2.2.2.2.1 k hk
  have e : jM I sb cnt k = rjM I (a + 18) L cnt k := by
    show jP _ _ _ _ = rjd _ _ _ _ _ _
    rw [ans_jP ((h.od hev hk).1 (by omega) o3), h.mo.2.2.2.2.2.1, ← o2]
  refine ⟨e, ?_⟩
  rw [e]
  exact rjd_3 _ _ _ _ _ _
theorem JV.lin (h : JV g I J a no np ev ns ow pl ca ba L cnt sb) {g2 : GM} {v : Option Value} (hq : linQ g I J a no sb cnt v g2 I2 J2) : g2 = g ∧ JV g I2 J2 a no np ev ns ow pl ca ba L cnt sb ∧ (∀ b, (b < a + 6 ∨ a + 15 ≤ b) → b < a + 46 → I2 b = I b ∧ J2 b = J b) ∧ (linA (jM I sb cnt) no 0 1 ≠ 0 → ∀ k, k < no → I2 (sb k) 9 = 1) := by
  obtain ⟨q1, q2, q3, q4, q5⟩ := hq
  have hns := h.2.1
  have fr : ∀ b, (b < a + 6 ∨ a + 15 ≤ b) → b < a + 46 → I2 b = I b ∧ J2 b = J b := fun b b1 b2 => q4 b (fun k hk => Or.inl (by have := h.1.lo (show k < ns by omega); omega)) b1
  refine ⟨q1, h.cls (fun b b1 b2 => fr b (by omega) (by omega)) (by rw [(fr a (by omega) (by omega)).1]) (by rw [(fr a (by omega) (by omega)).1]) (by rw [(fr a (by omega) (by omega)).1]) (by rw [(fr a (by omega) (by omega)).2]) (fr (a + 2) (by omega) (by omega)).1 (fr (a + 3) (by omega) (by omega)).1 (fr (a + 4) (by omega) (by omega)).2 (fr (a + 5) (by omega) (by omega)).1 (fun k hk => (h.2.2.2.2.2.2.1 k hk).ls (q3 k hk).1 (q3 k hk).2 (fun c c1 c2 => (fr _ (by omega) (by omega)).1)) ?_, fr, q5⟩
  exact h.rowsame (fr a (by omega) (by omega)).1 (fr (a + 4) (by omega) (by omega)).2 (fr (a + 15) (by omega) (by omega)).1 (fr (a + 16) (by omega) (by omega)).1 (fun k hk => ⟨(q3 k hk).2.op, (q3 k hk).2.1 5 (by decide) (by decide) (by decide) (by decide), (q3 k hk).2.1 8 (by decide) (by decide) (by decide) (by decide)⟩)
/-- every object is judged linear -/
def J1 (I : MI) (m no ev : Nat) (L cnt : Nat → Nat) : Prop := ∀ k, k < no → rjd (rE I m L k) (Nf L k) (I (m + 1) k) (cnt k) (nI ev) 0 = 1
theorem J1.reg {m : Nat} (h : J1 I m no ev L cnt) (h1 : ∀ c, 1 ≤ c → c ≤ 12 → I2 (m + c) = I (m + c)) : J1 I2 m no ev L cnt := fun k hk => by
  rw [h1 1 (by decide) (by decide), rjd_congr (eqR_mem (fun f f1 f2 => h1 f (by omega) (by omega)))]
  exact h k hk
theorem JV.j1 (h : JV g I J a no np ev ns ow pl ca ba L cnt sb) (hl : rlin (rjM I (a + 18) L cnt) no 0 1 = 1) : J1 I (a + 18) no ev L cnt := fun k hk => by
  have h1 := (rlin_1 no 0 1 hl).2 k (Nat.zero_le _) (by omega)
  have e : rjM I (a + 18) L cnt k = rjd (rE I (a + 18) L k) (Nf L k) (I (a + 18 + 1) k) (cnt k) (nI ev) 0 := by
    show rjd _ _ _ _ _ _ = _
    rw [h.mo.2.2.2.2.2.1]
  rw [e] at h1
  rcases rjd_3 (rE I (a + 18) L k) (Nf L k) (I (a + 18 + 1) k) (cnt k) (nI ev) 0 with q | q | q
  · exact absurd q h1.1
  · exact q
  · exact absurd q h1.2
theorem JV.rowH (h : JV g I J a no np ev ns ow pl ca ba L cnt sb) (hev : ev < 2 ^ 20) (hj : J1 I (a + 18) no ev L cnt) {E R : Nat → Nat → Nat → Int32} {kd kd2 rt : Nat → Int32} {X1 X2 : Nat → XS} {der : Nat → Int64} {bf : Nat → Nat → Bool} (hE : ∀ k, k < no → (∀ i q, i < 16 → E k i q = opE I (sb k) i q) ∧ kd k = I (sb k) 5 ∧ rt k = I (sb k) 8 ∧ xrun (E k) (kd k) (rt k) 0 (cnt k) = some (X1 k)) (hd : ∀ x, x < np → der x = J (a + 4) x) (hR : ∀ k, k < no → eqR (rE I (a + 18) L k) (R k) ∧ kd2 k = I (a + 18 + 1) k ∧ brun (rstp (R k) (Nf L k) (kd2 k) (cnt k) (nI ev) 0) (cnt k) = some (X2 k)) (hb : ∀ x y, x < np → y < np → bf x y = decide (bfr I (a + 18) (nI ev) 0 x y)) : RowH no np ev ow pl ca ba L cnt E R kd2 rt X1 X2 der bf := by
  obtain ⟨h1, h2, h3, h4, h5, h6, h7, h8, h9⟩ := h.2.2.1
  obtain ⟨-, -, -, -, c5, -⟩ := h.2.2.2.2.2.1
  obtain ⟨-, -, -, -, -, r6⟩ := h.2.2.2.1
  refine ⟨h2, h4, h5, h7, fun x hx => by have := h8 x hx; omega, fun x y hx hy => ?_, fun x hx y hy => by rw [hd x hx]; exact (c5 x hx).2.2 y hy, fun k hk => ?_⟩
  · rw [hb x y hx hy, decide_eq_true_eq]
    obtain ⟨-, -, x3⟩ := r6 x hx
    obtain ⟨-, y2, -⟩ := r6 y hy
    have := h8 x hx
    have := h8 y hy
    have e0 : (0 : Int32) = nI 0 := rfl
    unfold bfr bk
    rw [if_pos rfl, x3, y2, e0, nI_ltI (by decide) (by omega), nI_leI (by omega) (by omega), nI_ltI (by omega) (by omega)]
    omega
  · obtain ⟨o1, o2, o3, -⟩ := h.2.2.2.2.2.2.1 k hk
    obtain ⟨e1, e2, e3, e4⟩ := hE k hk
    obtain ⟨f1, f2, f3⟩ := hR k hk
    obtain ⟨hod, hev'⟩ := h.od hev hk
    have ek : kd2 k = kd k := by rw [f2, e2, o2]
    refine ⟨?_, hev'.eqR f1, by rw [ek]; exact e4, f3, by rw [rjd_congr f1, f2]; exact hj k hk⟩
    have := hod (by omega) (o3.same (E' := E k) (fun i q hi => e1 i q hi) (fun f _ _ => rfl))
    rw [ek, e2, e3]
    exact this.eqR f1
/-- both rows laid: they are the same -/
theorem JV.rows (h : JV g I J a no np ev ns ow pl ca ba L cnt sb) (hev : ev < 2 ^ 20) (hj : J1 I (a + 18) no ev L cnt) (h10 : I a 10 = 1) (h30 : I (a + 18) 30 = 1) : ∃ B : BS, B.1 ≤ 48 ∧ I a 9 = nI B.1 ∧ I (a + 18) 31 = nI B.1 ∧ ∀ i, i < B.1 → I (a + 15) i = I (a + 18 + 24) i ∧ I (a + 16) i = I (a + 18 + 25) i := by
  rcases h.2.2.2.2.2.2.2 with q | ⟨-, E, kd, rt, X1, hp, h1, der, B, b1, b2, b3, b4, b5, b6⟩
  · rw [h10] at q; exact absurd q (by decide)
  · rcases h.2.2.2.2.1.2 with q | ⟨-, R, kd2, bf, X2, h2, B2, c1, c2, c3, c4, c5, c6⟩
    · rw [h30] at q; exact absurd q (by decide)
    · have hRow := h.rowH hev hj (fun k hk => ⟨(b1 k hk).1, (b1 k hk).2.1, (b1 k hk).2.2.1, (b1 k hk).2.2.2.1⟩) b2 c1 c2
      have ek : ∀ k, k < no → kd2 k = kd k := fun k hk => by rw [(c1 k hk).2.1, (b1 k hk).2.1, (h.2.2.2.2.2.2.1 k hk).2.1]
      have e := row_eq hRow h1 h2 hp (fun k hk => by rw [ek k hk]; exact (b1 k hk).2.2.2.2)
      rw [c3] at e
      have eB : B2 = brw (rowD no np ow pl E kd2 rt X1 der hp) np 0 (fun _ => 0) (0, fun _ => 0, fun _ => 0) := Option.some.inj e
      have eBB : brw (rowD no np ow pl E kd2 rt X1 der hp) np 0 (fun _ => 0) (0, fun _ => 0, fun _ => 0) = B := by
        rw [b3]
        exact brw_kd (fun k hk => ek k hk) (fun x hx => (h.2.2.1.2.2.2.1 x hx).1) np _ _ _
      rw [eBB] at eB
      subst eB
      exact ⟨B2, c4, b4, c5, fun i hi => ⟨(b6 i hi).1.trans (c6 i hi).1.symm, (b6 i hi).2.trans (c6 i hi).2.symm⟩⟩
end QR
