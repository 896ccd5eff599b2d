/-! THE LAW'S STEP: call() -/
theorem addI_u {I : MI} {u n : Nat} {pr code va vb : Int32} : (∀ q, q ≠ 6 → q ≠ 9 → q ≠ 14 → addI I u n pr code va vb u q = I u q) ∧ addI I u n pr code va vb u 6 = nI (n + 1) ∧ addI I u n pr code va vb u 9 = 0 ∧ addI I u n pr code va vb u 14 = 0 := by
  unfold addI
  refine ⟨fun q a b c => ?_, ?_, ?_, s2_self _ _ _ _⟩
  · rw [s2_k c, s2_k b, s2_k a, s2_a (by omega), s2_a (by omega), s2_a (by omega), s2_a (by omega), s2_a (by omega), s2_a (by omega), s2_a (by omega), s2_a (by omega)]
  · rw [s2_k (by decide), s2_k (by decide), s2_self]
  · rw [s2_k (by decide), s2_self]
theorem addI_b {I : MI} {u n b : Nat} {pr code va vb : Int32} (h1 : b ≠ u) (h2 : b ≠ u + 14 + n) : addI I u n pr code va vb b = I b := by
  unfold addI
  rw [s2_off h1, s2_off h1, s2_off h1, s2_off h2, s2_off h2, s2_off h2, s2_off h2, s2_off h2, s2_off h2, s2_off h2, s2_off h2]
theorem addI_n {I : MI} {u n : Nat} {pr code va vb : Int32} : addI I u n pr code va vb (u + 14 + n) 0 = pr ∧ addI I u n pr code va vb (u + 14 + n) 1 = code ∧ addI I u n pr code va vb (u + 14 + n) 2 = va ∧ addI I u n pr code va vb (u + 14 + n) 3 = vb ∧ addI I u n pr code va vb (u + 14 + n) 4 = nI (nmF (fun i => numOf I u (u + 14 + i)) (if I u 5 = 5 then vb else va) n 0) ∧ addI I u n pr code va vb (u + 14 + n) 6 = I u 8 ∧ addI I u n pr code va vb (u + 14 + n) 7 = plsOf (fun i => I (u + 14 + i) 0) pr n := by
  unfold addI
  refine ⟨?_, ?_, ?_, ?_, ?_, ?_, ?_⟩
  · rw [s2_a (by omega), s2_a (by omega), s2_a (by omega), s2_k (by decide), s2_k (by decide), s2_k (by decide), s2_k (by decide), s2_k (by decide), s2_k (by decide), s2_k (by decide), s2_self]
  · rw [s2_a (by omega), s2_a (by omega), s2_a (by omega), s2_k (by decide), s2_k (by decide), s2_k (by decide), s2_k (by decide), s2_k (by decide), s2_k (by decide), s2_self]
  · rw [s2_a (by omega), s2_a (by omega), s2_a (by omega), s2_k (by decide), s2_k (by decide), s2_k (by decide), s2_k (by decide), s2_k (by decide), s2_self]
  · rw [s2_a (by omega), s2_a (by omega), s2_a (by omega), s2_k (by decide), s2_k (by decide), s2_k (by decide), s2_k (by decide), s2_self]
  · rw [s2_a (by omega), s2_a (by omega), s2_a (by omega), s2_self]
  · rw [s2_a (by omega), s2_a (by omega), s2_a (by omega), s2_k (by decide), s2_k (by decide), s2_self]
  · rw [s2_a (by omega), s2_a (by omega), s2_a (by omega), s2_k (by decide), s2_self]
/-- the reference's memory behind a call -/
theorem clM_at {I I3 : MI} {m q k n p : Nat} {which va vb : Int32} (h : chM m (clM I m q k n p which va vb) I3) : (∀ j, j < 6 → I3 (m + 17) j = 0 ∧ I3 (m + 23) j = 0) ∧ I3 m 30 = 0 ∧ I3 m 0 = 0 ∧ I3 m 15 = I m 15 + 1 ∧ I3 m 5 = nI (q + 1) ∧ I3 m 1 = I m 1 ∧ (∀ b, b < m ∨ m + 27 ≤ b ∨ b = m + 1 ∨ b = m + 9 → I3 b = I b) ∧ (∀ y, I3 (m + 2) y = if y = k then nI (n + 1) else I (m + 2) y) ∧ (∀ y, I3 (m + 3) y = if y = 16 * k + n then nI q else I (m + 3) y) ∧ (∀ y, I3 (m + 4) y = if y = q then nI p else I (m + 4) y) ∧ (∀ y, I3 (m + 5) y = if y = q then nI k else I (m + 5) y) ∧ (∀ y, I3 (m + 6) y = if y = q then which else I (m + 6) y) ∧ (∀ y, I3 (m + 7) y = if y = q then va else I (m + 7) y) ∧ (∀ y, I3 (m + 8) y = if y = q then vb else I (m + 8) y) ∧ (∀ y, I3 (m + 10) y = if y = q then I m 15 + 1 else I (m + 10) y) ∧ (∀ y, I3 (m + 11) y = if y = q then 0 else I (m + 11) y) ∧ ∀ y, I3 (m + 12) y = if y = p then nI q else I (m + 12) y := by
  obtain ⟨w3, w4, w5, w6⟩ := h
  unfold clM at w5 w6
  have two : ∀ (f : MI) (b z : Nat) (v : Int32) (y : Nat), s2 f b z v b y = if y = z then v else f b y := fun f b z v y => by
    by_cases c : y = z
    · rw [c, s2_self, if_pos rfl]
    · rw [s2_k c, if_neg c]
  refine ⟨w3, w4, ?_, ?_, ?_, ?_, fun b hb => ?_, fun y => ?_, fun y => ?_, fun y => ?_, fun y => ?_, fun y => ?_, fun y => ?_, fun y => ?_, fun y => ?_, fun y => ?_, fun y => ?_⟩
  · rw [w5 0 (by decide), s2_a (by omega), s2_a (by omega), s2_a (by omega), s2_a (by omega), s2_a (by omega), s2_a (by omega), s2_a (by omega), s2_a (by omega), s2_a (by omega), s2_a (by omega), s2_k (by decide), s2_k (by decide), s2_self]
  · rw [w5 15 (by decide), s2_a (by omega), s2_a (by omega), s2_a (by omega), s2_a (by omega), s2_a (by omega), s2_a (by omega), s2_a (by omega), s2_a (by omega), s2_a (by omega), s2_a (by omega), s2_k (by decide), s2_self]
  · rw [w5 5 (by decide), s2_a (by omega), s2_a (by omega), s2_a (by omega), s2_a (by omega), s2_a (by omega), s2_a (by omega), s2_a (by omega), s2_a (by omega), s2_a (by omega), s2_a (by omega), s2_self]
  · rw [w5 1 (by decide), s2_a (by omega), s2_a (by omega), s2_a (by omega), s2_a (by omega), s2_a (by omega), s2_a (by omega), s2_a (by omega), s2_a (by omega), s2_a (by omega), s2_a (by omega), s2_k (by decide), s2_k (by decide), s2_k (by decide)]
  · rw [w6 b (by omega) (by omega) (by omega), s2_off (by omega), s2_off (by omega), s2_off (by omega), s2_off (by omega), s2_off (by omega), s2_off (by omega), s2_off (by omega), s2_off (by omega), s2_off (by omega), s2_off (by omega), s2_off (by omega), s2_off (by omega), s2_off (by omega)]
  · rw [w6 _ (by omega) (by omega) (by omega), s2_a (by omega), two, s2_a (by omega), s2_a (by omega), s2_a (by omega), s2_a (by omega), s2_a (by omega), s2_a (by omega), s2_a (by omega), s2_a (by omega), s2_a (by omega), s2_a (by omega), s2_a (by omega)]
  · rw [w6 _ (by omega) (by omega) (by omega), s2_a (by omega), s2_a (by omega), two, s2_a (by omega), s2_a (by omega), s2_a (by omega), s2_a (by omega), s2_a (by omega), s2_a (by omega), s2_a (by omega), s2_a (by omega), s2_a (by omega), s2_a (by omega)]
  · rw [w6 _ (by omega) (by omega) (by omega), s2_a (by omega), s2_a (by omega), s2_a (by omega), s2_a (by omega), s2_a (by omega), s2_a (by omega), s2_a (by omega), s2_a (by omega), s2_a (by omega), two, s2_a (by omega), s2_a (by omega), s2_a (by omega)]
  · rw [w6 _ (by omega) (by omega) (by omega), s2_a (by omega), s2_a (by omega), s2_a (by omega), s2_a (by omega), s2_a (by omega), s2_a (by omega), s2_a (by omega), s2_a (by omega), two, s2_a (by omega), s2_a (by omega), s2_a (by omega), s2_a (by omega)]
  · rw [w6 _ (by omega) (by omega) (by omega), s2_a (by omega), s2_a (by omega), s2_a (by omega), s2_a (by omega), s2_a (by omega), s2_a (by omega), s2_a (by omega), two, s2_a (by omega), s2_a (by omega), s2_a (by omega), s2_a (by omega), s2_a (by omega)]
  · rw [w6 _ (by omega) (by omega) (by omega), s2_a (by omega), s2_a (by omega), s2_a (by omega), s2_a (by omega), s2_a (by omega), s2_a (by omega), two, s2_a (by omega), s2_a (by omega), s2_a (by omega), s2_a (by omega), s2_a (by omega), s2_a (by omega)]
  · rw [w6 _ (by omega) (by omega) (by omega), s2_a (by omega), s2_a (by omega), s2_a (by omega), s2_a (by omega), s2_a (by omega), two, s2_a (by omega), s2_a (by omega), s2_a (by omega), s2_a (by omega), s2_a (by omega), s2_a (by omega), s2_a (by omega)]
  · rw [w6 _ (by omega) (by omega) (by omega), s2_a (by omega), s2_a (by omega), s2_a (by omega), s2_a (by omega), two, s2_a (by omega), s2_a (by omega), s2_a (by omega), s2_a (by omega), s2_a (by omega), s2_a (by omega), s2_a (by omega), s2_a (by omega)]
  · rw [w6 _ (by omega) (by omega) (by omega), s2_a (by omega), s2_a (by omega), s2_a (by omega), two, s2_a (by omega), s2_a (by omega), s2_a (by omega), s2_a (by omega), s2_a (by omega), s2_a (by omega), s2_a (by omega), s2_a (by omega), s2_a (by omega)]
  · rw [w6 _ (by omega) (by omega) (by omega), two, s2_a (by omega), s2_a (by omega), s2_a (by omega), s2_a (by omega), s2_a (by omega), s2_a (by omega), s2_a (by omega), s2_a (by omega), s2_a (by omega), s2_a (by omega), s2_a (by omega), s2_a (by omega)]
theorem upF_self {α : Type} (f : Nat → α) (p : Nat) (v : α) : upF f p v p = v := by unfold upF; rw [if_pos rfl]
theorem upF_ne {α : Type} (f : Nat → α) (p : Nat) (v : α) {x : Nat} (h : x ≠ p) : upF f p v x = f x := by unfold upF; rw [if_neg h]
/-- the called operation is laid down -/
theorem JV.called {g : GM} {I : MI} {J : MJ} {a no np ev ns : Nat} {ow pl ca ba L cnt sb : Nat → Nat} (h : JV g I J a no np ev ns ow pl ca ba L cnt sb) (hev : ev + 1 < 2 ^ 20) {p k : Nat} {code va vb : Int32} {z : Int64} {I3 : MI} (hp : p < 8) (hk : k < no) (hnp : np < 48) (hc : cnt k < 16) (hcode : code = 0 ∨ code = 1 ∨ code = 2 ∨ I (sb k) 5 = 0 ∧ (code = 3 ∨ code = 4)) (hM : chM (a + 18) (clM (clI I a (sb k) p k (cnt k) np code va vb) (a + 18) np k (cnt k) p code va vb) I3) : JV g I3 (s2 (s2 J (a + 4) np (J a 14)) (a + 45) 0 z) a no (np + 1) (ev + 1) ns (upF ow np k) (upF pl np (cnt k)) (upF ca np (ev + 1)) (upF ba np 0) (upF L (16 * k + cnt k) np) (upF cnt k (cnt k + 1)) sb ∧ (∀ b, b < a → I3 b = I b) ∧ I3 (a + 18) 0 = 0 := by
  have hH := h.2.2.1
  have hRM := h.2.2.2.1
  have hC := h.2.2.2.2.2.1
  have hns := h.2.1
  obtain ⟨m1, m2, m3, m4, m5, m6, m7, m8⟩ := h.mo
  have hlo := h.1.lo (show k < ns by omega)
  have hO := h.2.2.2.2.2.2.1 k hk
  have h8 := hH.2.2.2.2.2.2.2.1
  obtain ⟨w1, w2, w3, w4, w5, w6, w7, x2, x3, x4, x5, x6, x7, x8, x10, x11, x12⟩ := clM_at hM
  generalize eI1 : clI I a (sb k) p k (cnt k) np code va vb = I1 at w4 w6 w7 x2 x3 x4 x5 x6 x7 x8 x10 x11 x12
  have two : ∀ (f : MI) (b z : Nat) (v : Int32) (y : Nat), s2 f b z v b y = if y = z then v else f b y := fun f b z v y => by
    by_cases c : y = z
    · rw [c, s2_self, if_pos rfl]
    · rw [s2_k c, if_neg c]
  have b0 : ∀ b, b < sb k ∨ sb k + 30 ≤ b → b ≠ a → b ≠ a + 2 → b ≠ a + 3 → b ≠ a + 5 → I1 b = I b := fun b b1 b2 b3 b4 b5 => by rw [← eI1]; unfold clI; rw [s2_off b2, s2_off b2, s2_off b2, addI_off b1 hc, s2_off b5, s2_off b4, s2_off b3]
  have a13 : I a 13 + 1 = nI (ev + 1) := by rw [hC.2.2.1, nI_1]
  have b1a : ∀ q, q ≠ 10 → q ≠ 12 → q ≠ 13 → I1 a q = I a q := fun q q1 q2 q3 => by rw [← eI1]; unfold clI; rw [s2_k q3, s2_k q2, s2_k q1, addI_off (Or.inl (by omega)) hc, s2_a (by omega), s2_a (by omega), s2_a (by omega)]
  have b1a10 : I1 a 10 = 0 := by rw [← eI1]; unfold clI; rw [s2_k (by decide), s2_k (by decide), s2_self]
  have b1a12 : I1 a 12 = nI (np + 1) := by rw [← eI1]; unfold clI; rw [s2_k (by decide), s2_self]
  have b1a13 : I1 a 13 = nI (ev + 1) := by rw [← eI1]; unfold clI; rw [s2_self, a13]
  have b2 : ∀ y, I1 (a + 2) y = if y = np then nI k else I (a + 2) y := fun y => by rw [← eI1]; unfold clI; rw [s2_a (by omega), s2_a (by omega), s2_a (by omega), addI_off (Or.inl (by omega)) hc, s2_a (by omega), s2_a (by omega), two]
  have b3 : ∀ y, I1 (a + 3) y = if y = np then nI (cnt k) else I (a + 3) y := fun y => by rw [← eI1]; unfold clI; rw [s2_a (by omega), s2_a (by omega), s2_a (by omega), addI_off (Or.inl (by omega)) hc, s2_a (by omega), two, s2_a (by omega)]
  have b5 : ∀ y, I1 (a + 5) y = if y = p then nI np else I (a + 5) y := fun y => by rw [← eI1]; unfold clI; rw [s2_a (by omega), s2_a (by omega), s2_a (by omega), addI_off (Or.inl (by omega)) hc, two, s2_a (by omega), s2_a (by omega)]
  have eu0 : ∀ b, b ≠ a + 2 → b ≠ a + 3 → b ≠ a + 5 → s2 (s2 (s2 I (a + 2) np (nI k)) (a + 3) np (nI (cnt k))) (a + 5) p (nI np) b = I b := fun b p1 p2 p3 => by rw [s2_off p3, s2_off p2, s2_off p1]
  have bu : (∀ q, q ≠ 6 → q ≠ 9 → q ≠ 14 → I1 (sb k) q = I (sb k) q) ∧ I1 (sb k) 6 = nI (cnt k + 1) ∧ I1 (sb k) 9 = 0 ∧ I1 (sb k) 14 = 0 := by
    have := addI_u (I := s2 (s2 (s2 I (a + 2) np (nI k)) (a + 3) np (nI (cnt k))) (a + 5) p (nI np)) (u := sb k) (n := cnt k) (pr := nI p) (code := code) (va := va) (vb := vb)
    rw [eu0 (sb k) (by omega) (by omega) (by omega)] at this
    rw [← eI1]
    unfold clI
    rw [s2_off (show sb k ≠ a by omega), s2_off (show sb k ≠ a by omega), s2_off (show sb k ≠ a by omega)]
    exact this
  have bb : ∀ b, sb k < b → b < sb k + 30 → b ≠ sb k + 14 + cnt k → I1 b = I b := fun b p1 p2 p3 => by
    rw [← eI1]
    unfold clI
    rw [s2_off (show b ≠ a by omega), s2_off (show b ≠ a by omega), s2_off (show b ≠ a by omega), addI_b (by omega) p3, eu0 b (by omega) (by omega) (by omega)]
  have bn : I1 (sb k + 14 + cnt k) 0 = nI p ∧ I1 (sb k + 14 + cnt k) 1 = code ∧ I1 (sb k + 14 + cnt k) 2 = va ∧ I1 (sb k + 14 + cnt k) 3 = vb ∧ I1 (sb k + 14 + cnt k) 4 = nI (nmF (fun i => if I (sb k) 5 = 5 then I (sb k + 14 + i) 3 else I (sb k + 14 + i) 2) (if I (sb k) 5 = 5 then vb else va) (cnt k) 0) ∧ I1 (sb k + 14 + cnt k) 6 = I (sb k) 8 ∧ I1 (sb k + 14 + cnt k) 7 = plsOf (fun i => I (sb k + 14 + i) 0) (nI p) (cnt k) := by
    have := addI_n (I := s2 (s2 (s2 I (a + 2) np (nI k)) (a + 3) np (nI (cnt k))) (a + 5) p (nI np)) (u := sb k) (n := cnt k) (pr := nI p) (code := code) (va := va) (vb := vb)
    have ef : (fun i => numOf (s2 (s2 (s2 I (a + 2) np (nI k)) (a + 3) np (nI (cnt k))) (a + 5) p (nI np)) (sb k) (sb k + 14 + i)) = fun i => if I (sb k) 5 = 5 then I (sb k + 14 + i) 3 else I (sb k + 14 + i) 2 := funext fun i => by
      unfold numOf
      rw [eu0 (sb k) (by omega) (by omega) (by omega), eu0 (sb k + 14 + i) (by omega) (by omega) (by omega)]
    have ef2 : (fun i => s2 (s2 (s2 I (a + 2) np (nI k)) (a + 3) np (nI (cnt k))) (a + 5) p (nI np) (sb k + 14 + i) 0) = fun i => I (sb k + 14 + i) 0 := funext fun i => by
      rw [eu0 (sb k + 14 + i) (by omega) (by omega) (by omega)]
    rw [ef, ef2, eu0 (sb k) (by omega) (by omega) (by omega)] at this
    rw [← eI1]
    unfold clI
    rw [s2_off (show sb k + 14 + cnt k ≠ a by omega), s2_off (show sb k + 14 + cnt k ≠ a by omega), s2_off (show sb k + 14 + cnt k ≠ a by omega)]
    exact this
  clear eI1 hM
  have bm : ∀ c, c < 27 → I1 (a + 18 + c) = I (a + 18 + c) := fun c hc => b0 _ (Or.inl (by omega)) (by omega) (by omega) (by omega) (by omega)
  have bm0 : I1 (a + 18) = I (a + 18) := bm 0 (by decide)
  rw [bm 2 (by decide)] at x2
  rw [bm 3 (by decide)] at x3
  rw [bm 4 (by decide)] at x4
  rw [bm 5 (by decide)] at x5
  rw [bm 6 (by decide)] at x6
  rw [bm 7 (by decide)] at x7
  rw [bm 8 (by decide)] at x8
  rw [bm 10 (by decide), bm0] at x10
  rw [bm 11 (by decide)] at x11
  rw [bm 12 (by decide)] at x12
  have e15 : I (a + 18) 15 + 1 = nI (ev + 1) := by rw [m6, nI_1]
  rw [e15] at x10
  have hI : ∀ b, b < a + 18 ∨ a + 45 ≤ b → I3 b = I1 b := fun b hb => w7 b (by omega)
  have e1 : I3 (a + 18 + 1) = I (a + 18 + 1) := (w7 _ (by omega)).trans (bm 1 (by decide))
  have e9 : I3 (a + 18 + 9) = I (a + 18 + 9) := (w7 _ (by omega)).trans (bm 9 (by decide))
  have hH' := hH.call hk hnp hc
  have lt16 : ∀ j, j < no → cnt j ≤ 16 := hH.2.2.1
  have L2 : ∀ j i, j < no → i < 16 → (j ≠ k ∨ i ≠ cnt k) → upF L (16 * k + cnt k) np (16 * j + i) = L (16 * j + i) := fun j i hj hi hne => upF_ne _ _ _ (by omega)
  have Lnp : ∀ j i, j < no → i < cnt j → L (16 * j + i) < np := fun j i hj hi => (hH.2.2.2.2.1 j hj i hi).1
  have hRM' : RM I3 (a + 18) no (np + 1) (ev + 1) (upF ow np k) (upF ca np (ev + 1)) (upF ba np 0) (upF L (16 * k + cnt k) np) (upF cnt k (cnt k + 1)) := by
    refine ⟨by rw [w6, bm0]; exact m3, w5, by rw [w4, bm0]; exact e15, fun q hq => ?_, fun j hj => ?_, fun y hy => ?_⟩
    · rw [x3]
      by_cases c : q = 16 * k + cnt k
      · rw [if_pos c, c, upF_self]
        exact ⟨rfl, hnp⟩
      · rw [if_neg c, upF_ne _ _ _ c]
        exact m2 q hq
    · rw [x2]
      by_cases c : j = k
      · rw [if_pos c, c, upF_self]
      · rw [if_neg c, upF_ne _ _ _ c]
        exact (m5 j hj).1
    · rw [x5, x10, x11]
      by_cases c : y = np
      · rw [if_pos c, if_pos c, if_pos c, c, upF_self, upF_self, upF_self]
        exact ⟨rfl, rfl, rfl⟩
      · rw [if_neg c, if_neg c, if_neg c, upF_ne _ _ _ c, upF_ne _ _ _ c, upF_ne _ _ _ c]
        exact hRM.2.2.2.2.2 y (by omega)
  have ea : I3 a = I1 a := hI a (by omega)
  have j0 : ∀ b, b ≠ a + 4 → b ≠ a + 45 → s2 (s2 J (a + 4) np (J a 14)) (a + 45) 0 z b = J b := fun b p1 p2 => by rw [s2_off p2, s2_off p1]
  refine ⟨⟨h.1, hns, hH', hRM', RC.new (fun j hj => ⟨hRM'.2.2.2.2.1 j hj, hH'.2.2.1 j hj⟩) m4 w1 w2, ⟨by rw [ea, b1a 11 (by decide) (by decide) (by decide)]; exact hC.1, by rw [ea]; exact b1a12, by rw [ea]; exact b1a13, fun x hx => ?_, fun x hx => ?_, fun q hq => ?_⟩, fun j hj => ?_, Or.inl (by rw [ea]; exact b1a10)⟩, fun b hb => by rw [hI b (by omega)]; exact b0 b (Or.inl (by omega)) (by omega) (by omega) (by omega) (by omega), w3⟩
  · rw [j0 a (by omega) (by omega), hC.2.2.2.1 x hx]
    by_cases c : x = np
    · rw [c, upF_self]
      omega
    · rw [upF_ne _ _ _ c]
      omega
  · rw [hI (a + 2) (by omega), hI (a + 3) (by omega), b2, b3, s2_off (show a + 4 ≠ a + 45 by omega)]
    by_cases c : x = np
    · rw [if_pos c, if_pos c, c, upF_self, upF_self, upF_self, s2_self]
      refine ⟨rfl, rfl, fun y hy => ?_⟩
      rw [hC.2.2.2.1 y hy]
      by_cases d : y = np
      · rw [d, upF_self]
        omega
      · rw [upF_ne _ _ _ d]
        constructor
        · rintro ⟨q1, q2⟩
          have := h8 y q1
          omega
        · rintro ⟨q1, q2, q3⟩
          omega
    · rw [if_neg c, if_neg c, upF_ne _ _ _ c, upF_ne _ _ _ c, upF_ne _ _ _ c, s2_k c]
      obtain ⟨q1, q2, q3⟩ := hC.2.2.2.2.1 x (by omega)
      refine ⟨q1, q2, fun y hy => ?_⟩
      rw [q3 y hy]
      by_cases d : y = np
      · rw [d, upF_self]
        omega
      · rw [upF_ne _ _ _ d]
        omega
  · rw [hI (a + 5) (by omega), b5, x12]
    obtain ⟨q1, q2⟩ := hC.2.2.2.2.2 q hq
    by_cases c : q = p
    · rw [if_pos c, if_pos c]
      refine ⟨rfl, Or.inr ⟨np, by omega, rfl, upF_self _ _ _, ?_⟩⟩
      rw [x4, if_pos rfl, c]
    · rw [if_neg c, if_neg c]
      refine ⟨q1, ?_⟩
      rcases q2 with q2 | ⟨x, r1, r2, r3, r4⟩
      · exact Or.inl q2
      · refine Or.inr ⟨x, by omega, r2, by rw [upF_ne _ _ _ (by omega)]; exact r3, ?_⟩
        rw [x4, if_neg (by omega)]
        exact r4
  · have hbe : ∀ i, i < cnt j → cF ba L j i ≤ ev := fun i hi => by
      have := h8 _ (Lnp j i hj hi)
      show ba (L (16 * j + i)) ≤ ev
      omega
    have hOj := h.2.2.2.2.2.2.1 j hj
    have h16 := lt16 j hj
    have oldL : ∀ i, i < cnt j → upF L (16 * k + cnt k) np (16 * j + i) = L (16 * j + i) := fun i hi => L2 j i hj (by omega) (by
      by_cases c : j = k
      · right; rw [c] at hi; omega
      · exact Or.inl c)
    have hRR : ∀ i f, i < cnt j → 4 ≤ f → f ≤ 9 → rE I3 (a + 18) (upF L (16 * k + cnt k) np) j i f = rE I (a + 18) L j i f := fun i f hi f1 f2 => by
      show I3 (a + 18 + f) (upF L (16 * k + cnt k) np (16 * j + i)) = I (a + 18 + f) (L (16 * j + i))
      rw [oldL i hi]
      have hne := Nat.ne_of_lt (Lnp j i hj hi)
      have : f = 4 ∨ f = 5 ∨ f = 6 ∨ f = 7 ∨ f = 8 ∨ f = 9 := by omega
      rcases this with rfl | rfl | rfl | rfl | rfl | rfl
      · rw [x4, if_neg hne]
      · rw [x5, if_neg hne]
      · rw [x6, if_neg hne]
      · rw [x7, if_neg hne]
      · rw [x8, if_neg hne]
      · rw [e9]
    have hcc : ∀ i, i < cnt j → cF (upF ca np (ev + 1)) (upF L (16 * k + cnt k) np) j i = cF ca L j i ∧ cF (upF ba np 0) (upF L (16 * k + cnt k) np) j i = cF ba L j i := fun i hi => by
      have hne := Nat.ne_of_lt (Lnp j i hj hi)
      show upF ca np (ev + 1) (upF L (16 * k + cnt k) np (16 * j + i)) = _ ∧ upF ba np 0 (upF L (16 * k + cnt k) np (16 * j + i)) = _
      rw [oldL i hi, upF_ne _ _ _ hne, upF_ne _ _ _ hne]
      exact ⟨rfl, rfl⟩
    have odN := fun {E : Nat → Nat → Int32} {kind ret : Int32} {n e : Nat} => HRM_od hH' hRM' (by omega) hj (E := E) (kind := kind) (ret := ret) (n := n) (e := e)
    by_cases c : j = k
    · subst c
      have eL : upF L (16 * j + cnt j) np (16 * j + cnt j) = np := upF_self _ _ _
      rw [upF_self] at odN ⊢
      have su : ∀ b, sb j ≤ b → I3 b = I1 b := fun b hb => hI b (by omega)
      have oE : ∀ i q, i < cnt j → opE I3 (sb j) i q = opE I (sb j) i q := fun i q hi => by show I3 _ _ = I _ _; rw [su _ (by omega), bb _ (by omega) (by omega) (by omega)]
      have oN : ∀ q, opE I3 (sb j) (cnt j) q = I1 (sb j + 14 + cnt j) q := fun q => by show I3 _ _ = _; rw [su _ (by omega)]
      have rN : ∀ f, rE I3 (a + 18) (upF L (16 * j + cnt j) np) j (cnt j) f = I3 (a + 18 + f) np := fun f => by show I3 _ (upF L _ _ _) = _; rw [eL]
      refine hOj.call hc (by rw [su _ (Nat.le_refl _)]; exact bu.2.1) (by rw [su _ (Nat.le_refl _)]; exact bu.2.2.1) (by rw [su _ (Nat.le_refl _)]; exact bu.2.2.2) (by rw [su _ (Nat.le_refl _), bu.1 5 (by decide) (by decide) (by decide)]) (by rw [su _ (Nat.le_refl _), bu.1 7 (by decide) (by decide) (by decide)]) (by rw [su _ (Nat.le_refl _), bu.1 8 (by decide) (by decide) (by decide)]) (by rw [su _ (Nat.le_refl _), bu.1 16 (by decide) (by decide) (by decide)]) (by rw [su _ (Nat.le_refl _), bu.1 17 (by decide) (by decide) (by decide)]) (by rw [su _ (by omega), bb _ (by omega) (by omega) (by omega)]) (by rw [su _ (by omega), bb _ (by omega) (by omega) (by omega)]) (by rw [su _ (by omega), bb _ (by omega) (by omega) (by omega)]) oE (by rw [e1]) hRR hcc ?_ ?_ hbe ?_ ?_ ?_ ?_ (by omega) (HRM_od hH hRM (by omega) hj) odN
      · show upF ca np (ev + 1) (upF L _ _ _) = _
        rw [eL, upF_self]
      · show upF ba np 0 (upF L _ _ _) = _
        rw [eL, upF_self]
      · refine ⟨by rw [rN, oN, x4, if_pos rfl]; exact bn.1.symm, by rw [rN, oN, x6, if_pos rfl]; exact bn.2.1.symm, by rw [rN, oN, x7, if_pos rfl]; exact bn.2.2.1.symm, by rw [rN, oN, x8, if_pos rfl]; exact bn.2.2.2.1.symm, ?_, ?_⟩
        · rw [oN, oN, oN, bn.2.2.2.2.1, bn.2.2.2.1, bn.2.2.1]
          congr 1
          refine (nmF_congr (cnt j) 0 (fun i _ hi => ?_)).symm
          show (if I (sb j) 5 = 5 then opE I3 (sb j) i 3 else opE I3 (sb j) i 2) = if I (sb j) 5 = 5 then opE I (sb j) i 3 else opE I (sb j) i 2
          rw [oE i 3 (by omega), oE i 2 (by omega)]
        · rw [oN, bn.2.1]
          exact hcode
      · rw [oN]
        exact bn.2.2.2.2.2.1
      · rw [oN, oN, bn.2.2.2.2.2.2, bn.1]
      · intro i t hi ht
        have := hH'.2.2.2.2.2.1 j hj i t (by rw [upF_self]; exact hi) (by rw [upF_self]; exact ht)
        exact this
    · rw [upF_ne _ _ _ c] at odN ⊢
      have hdis := h.1.dis (show j < ns by omega) (show k < ns by omega) c
      have hloj := h.1.lo (show j < ns by omega)
      exact hOj.other (fun b p1 p2 => ⟨by rw [hI b (by omega)]; exact b0 b (by omega) (by omega) (by omega) (by omega) (by omega), j0 b (by omega) (by omega)⟩) (by rw [e1]) hRR hcc oldL hbe (by omega) (by omega) (HRM_od hH hRM (by omega) hj) odN
