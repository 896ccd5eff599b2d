/-! THE LAW'S STEP: back() -/
theorem endI_off {I : MI} {u p k b : Nat} {res ev : Int32} (hp : p < 16) (h : b < u ∨ u + 30 ≤ b) : endI I u p k res ev b = I b := by
  unfold endI
  rw [s2_off (by omega), s2_off (by omega), s2_off (by omega), s2_off (by omega), s2_off (by omega), s2_off (by omega), s2_off (by omega), s2_off (by omega)]
theorem endI_u {I : MI} {u p k : Nat} {res ev : Int32} : (∀ q, q ≠ 7 → q ≠ 8 → q ≠ 9 → q ≠ 14 → endI I u p k res ev u q = I u q) ∧ endI I u p k res ev u 7 = nI (k + 1) ∧ endI I u p k res ev u 8 = I u 8 ||| jish 1 (nI p) ∧ endI I u p k res ev u 9 = 0 ∧ endI I u p k res ev u 14 = 0 := by
  unfold endI
  refine ⟨fun q a b c d => ?_, ?_, ?_, ?_, s2_self _ _ _ _⟩
  · rw [s2_k d, s2_k c, s2_k a, s2_a (by omega), s2_a (by omega), s2_a (by omega), s2_k b, s2_a (by omega)]
  · rw [s2_k (by decide), s2_k (by decide), s2_self]
  · rw [s2_k (by decide), s2_k (by decide), s2_k (by decide), s2_a (by omega), s2_a (by omega), s2_a (by omega), s2_self]
  · rw [s2_k (by decide), s2_self]
theorem endI_l {I : MI} {u p k : Nat} {res ev : Int32} (i : Nat) : endI I u p k res ev (u + 11) i = (if i = k then ev else I (u + 11) i) ∧ endI I u p k res ev (u + 12) i = (if i = k then I u 6 else I (u + 12) i) ∧ endI I u p k res ev (u + 13) i = (if i = k then I u 8 ||| jish 1 (nI p) else I (u + 13) i) := by
  unfold endI
  refine ⟨?_, ?_, ?_⟩
  · rw [s2_a (by omega), s2_a (by omega), s2_a (by omega), s2_a (by omega), s2_a (by omega)]
    by_cases c : i = k
    · rw [c, s2_self, if_pos rfl]
    · rw [s2_k c, if_neg c, s2_a (by omega), s2_a (by omega)]
  · rw [s2_a (by omega), s2_a (by omega), s2_a (by omega), s2_a (by omega)]
    by_cases c : i = k
    · rw [c, s2_self, if_pos rfl]
    · rw [s2_k c, if_neg c, s2_a (by omega), s2_a (by omega), s2_a (by omega)]
  · rw [s2_a (by omega), s2_a (by omega), s2_a (by omega)]
    by_cases c : i = k
    · rw [c, s2_self, if_pos rfl]
    · rw [s2_k c, if_neg c, s2_a (by omega), s2_a (by omega), s2_a (by omega), s2_a (by omega)]
theorem endI_op {I : MI} {u p k : Nat} {res ev : Int32} (i c : Nat) : endI I u p k res ev (u + 14 + i) c = if i = p ∧ c = 5 then res else I (u + 14 + i) c := by
  unfold endI
  rw [s2_a (by omega), s2_a (by omega), s2_a (by omega), s2_a (by omega), s2_a (by omega), s2_a (by omega), s2_a (by omega)]
  by_cases h : i = p ∧ c = 5
  · obtain ⟨rfl, rfl⟩ := h
    rw [s2_self, if_pos ⟨rfl, rfl⟩]
  · rw [if_neg h, s2_ne]
    by_cases q : i = p
    · right
      exact fun e => h ⟨q, e⟩
    · left
      omega
set_option maxHeartbeats 2000000 in
theorem s_back {s0 len a it : Nat} {scr : Nat → Int32} {g : GM} {I : MI} {J : MJ} (hJ : JX s0 len scr g I J a it) (hit : it < 2 ^ 19) (p0 p1 : Int32) : OutN s0 len scr a it (fun P => ∀ (l : Launch) (D : va_G), CtW l yLa_back bLa_back 4 (some .int) [(0, 6, 9, 13), (0, 6, 12, 19)] rmW D [.ref a, .int p0, .int p1] g I J P) (fun g2 I2 J2 P => ∀ (l : Launch) (D : va_G), Ct l yMo_back bMo_back 3 none (rmN 1 21) D [.ref (a + 18), .int p0, .int p1] g2 I2 J2 P) := by
  obtain ⟨h0, hs, hg, no, np, ev, ns, ow, pl, ca, ba, L, cnt, sb, h, hev⟩ := hJ
  have hA := h.1.1
  have a0 := hA.1
  rcases h.proc p0 with ⟨hb, hi⟩ | ⟨p, hp, rfl, ⟨hw, -, hi⟩ | ⟨x, hx, hw, hm12, hx0, hx4, hi⟩⟩
  · refine ⟨_, fun l D => w_back_t1 l D g I J p0 p1 a0 (fun l D => t_LH_back_p l D g I J p0 p1 a0 hb) (fun E g2 I2 J2 q => q.1) (by decide) (by decide) (by decide) (by decide), ?_⟩
    rintro v g2 I2 J2 ⟨rfl, -, q1, q2, q3, rfl, rfl⟩
    have h2 := h.g q1 q2 q3
    obtain ⟨m1, -⟩ := h2.mo
    refine ⟨1, rfl, hs, by rw [q1]; exact hg, m1.1, _, fun l D => c_Mo_back_idle l D g2 _ _ p0 p1 m1 (by rw [hi]; decide), ?_⟩
    rintro v3 g3 I3 J3 ⟨rfl, rfl, rfl, rfl⟩
    exact ⟨rfl, by rw [s2_self, hi], h0, by rw [s2_off (by omega)]; exact hs, by rw [q1]; exact hg, no, np, ev, ns, ow, pl, ca, ba, L, cnt, sb, h2.m0 _, by omega⟩
  · refine ⟨_, fun l D => w_back_t2 l D g I J (nI p) p1 a0 (fun l D => t_LH_back_w l D g I J p1 hA hp hw) (fun E g2 I2 J2 q => q.1) (by decide) (by decide) (by decide) (by decide), ?_⟩
    rintro v g2 I2 J2 ⟨rfl, -, q1, q2, q3, rfl, rfl⟩
    have h2 := h.g q1 q2 q3
    obtain ⟨m1, -⟩ := h2.mo
    refine ⟨2, rfl, hs, by rw [q1]; exact hg, m1.1, _, fun l D => c_Mo_back_idle l D g2 _ _ (nI p) p1 m1 (by rw [hi]; decide), ?_⟩
    rintro v3 g3 I3 J3 ⟨rfl, rfl, rfl, rfl⟩
    exact ⟨rfl, by rw [s2_self, hi], h0, by rw [s2_off (by omega)]; exact hs, by rw [q1]; exact hg, no, np, ev, ns, ow, pl, ca, ba, L, cnt, sb, h2.m0 _, by omega⟩
  · have hH := h.2.2.1
    have hRM := h.2.2.2.1
    have hC := h.2.2.2.2.2.1
    have hns := h.2.1
    obtain ⟨m1, m2, m3, m4, m5, m6, m7, m8⟩ := h.mo
    obtain ⟨o1, o2, o3⟩ := hH.2.2.2.1 x hx
    have hlo := h.1.lo (show ow x < ns by omega)
    have hO := h.2.2.2.2.2.2.1 _ o1
    have hn16 := hO.1.2.1
    have hcz : cF ba L (ow x) (pl x) = 0 := by show ba (L (16 * ow x + pl x)) = 0; rw [o3]; exact hx0
    obtain ⟨k9, y1, y2⟩ := hO.room o2 hcz
    obtain ⟨s1, s2', s3, s4⟩ := h.1.2.2.2.2.2.1 (ow x) (by omega)
    have h8 := hH.2.2.2.2.2.2.2.1
    refine ⟨_, fun l D => w_back_r l D g I J (nI p) p1 a0 (fun l D => c_LH_back l D g I J p1 hA hp hw (by omega) hC.1 m4 (hC.2.2.2.2.1 x hx).1 o1 s1 s2' (by omega) (hC.2.2.2.2.1 x hx).2.1 hO.1.1 hn16 o2 y1 (by omega)) (fun v g2 I2 J2 q => q.1) (by decide) (by decide) (by decide) (by decide), ?_⟩
    rintro v g2 I2 J2 ⟨rfl, -, rfl, rfl, rfl⟩
    generalize eI1 : backI I a (sb (ow x)) p k9 x (pl x) p1 = I1
    have b0 : ∀ b, b < sb (ow x) ∨ sb (ow x) + 30 ≤ b → b ≠ a → b ≠ a + 5 → I1 b = I b := fun b b1 b2 b3 => by rw [← eI1]; unfold backI; rw [endI_off (by omega) b1, s2_off b2, s2_off b2, s2_off b3]
    have ba13 : I a 13 + 1 = nI (ev + 1) := by rw [hC.2.2.1, nI_1]
    have b1a : ∀ q, q ≠ 10 → q ≠ 13 → I1 a q = I a q := fun q q1 q2 => by rw [← eI1]; unfold backI; rw [endI_off (by omega) (Or.inl (by omega)), s2_k q2, s2_k q1, s2_a (by omega)]
    have b1a10 : I1 a 10 = 0 := by rw [← eI1]; unfold backI; rw [endI_off (by omega) (Or.inl (by omega)), s2_k (by decide), s2_self]
    have b1a13 : I1 a 13 = nI (ev + 1) := by rw [← eI1]; unfold backI; rw [endI_off (by omega) (Or.inl (by omega)), s2_self, ba13]
    have b1w : ∀ q, I1 (a + 5) q = if q = p then -1 else I (a + 5) q := fun q => by
      rw [← eI1]; unfold backI
      rw [endI_off (by omega) (Or.inl (by omega)), s2_a (by omega), s2_a (by omega)]
      by_cases z : q = p
      · rw [z, s2_self, if_pos rfl]
      · rw [s2_k z, if_neg z]
    have eu0 : ∀ b, b ≠ a → b ≠ a + 5 → s2 (s2 (s2 I (a + 5) p (-1)) a 10 0) a 13 (I a 13 + 1) b = I b := fun b b1 b2 => by rw [s2_off b1, s2_off b1, s2_off b2]
    have bu : (∀ q, q ≠ 7 → q ≠ 8 → q ≠ 9 → q ≠ 14 → I1 (sb (ow x)) q = I (sb (ow x)) q) ∧ I1 (sb (ow x)) 7 = nI (k9 + 1) ∧ I1 (sb (ow x)) 8 = I (sb (ow x)) 8 ||| jish 1 (nI (pl x)) ∧ I1 (sb (ow x)) 9 = 0 ∧ I1 (sb (ow x)) 14 = 0 := by
      have := endI_u (I := s2 (s2 (s2 I (a + 5) p (-1)) a 10 0) a 13 (I a 13 + 1)) (u := sb (ow x)) (p := pl x) (k := k9) (res := p1) (ev := I a 13 + 1)
      rw [← eI1]
      unfold backI
      rw [eu0 (sb (ow x)) (by omega) (by omega)] at this
      exact this
    have bl : ∀ i, I1 (sb (ow x) + 11) i = (if i = k9 then nI (ev + 1) else I (sb (ow x) + 11) i) ∧ I1 (sb (ow x) + 12) i = (if i = k9 then I (sb (ow x)) 6 else I (sb (ow x) + 12) i) ∧ I1 (sb (ow x) + 13) i = (if i = k9 then I (sb (ow x)) 8 ||| jish 1 (nI (pl x)) else I (sb (ow x) + 13) i) := fun i => by
      have := endI_l (I := s2 (s2 (s2 I (a + 5) p (-1)) a 10 0) a 13 (I a 13 + 1)) (u := sb (ow x)) (p := pl x) (k := k9) (res := p1) (ev := I a 13 + 1) i
      rw [← eI1]
      unfold backI
      rw [eu0 (sb (ow x)) (by omega) (by omega), eu0 (sb (ow x) + 11) (by omega) (by omega), eu0 (sb (ow x) + 12) (by omega) (by omega), eu0 (sb (ow x) + 13) (by omega) (by omega), ba13] at this
      rw [ba13]
      exact this
    have bop : ∀ i c, I1 (sb (ow x) + 14 + i) c = if i = pl x ∧ c = 5 then p1 else I (sb (ow x) + 14 + i) c := fun i c => by
      have := endI_op (I := s2 (s2 (s2 I (a + 5) p (-1)) a 10 0) a 13 (I a 13 + 1)) (u := sb (ow x)) (p := pl x) (k := k9) (res := p1) (ev := I a 13 + 1) i c
      rw [← eI1]
      unfold backI
      rw [eu0 (sb (ow x) + 14 + i) (by omega) (by omega)] at this
      exact this
    clear eI1
    have bm : ∀ c, c < 27 → I1 (a + 18 + c) = I (a + 18 + c) := fun c hc => b0 _ (Or.inl (by omega)) (by omega) (by omega)
    refine ⟨0, rfl, by rw [b0 _ (Or.inl (by omega)) (by omega) (by omega)]; exact hs, hg, m1.1, _, fun l D => c_Mo_back l D _ I1 _ p1 m1 hp (by rw [bm 12 (by decide)]; exact hm12) (by omega), ?_⟩
    rintro v3 g3 I3 J3 ⟨rfl, rfl, rfl, w3, w4, w5, w6⟩
    have e15' : I1 (a + 18) 15 + 1 = nI (ev + 1) := by rw [show I1 (a + 18) = I (a + 18) from bm 0 (by decide), m6, nI_1]
    rw [e15'] at w5 w6
    have eI : ∀ b, b ≠ a + 18 → b ≠ a + 18 + 9 → b ≠ a + 18 + 11 → b ≠ a + 18 + 12 → b ≠ a + 18 + 17 → b ≠ a + 18 + 23 → I3 b = I1 b := fun b b1 b2 b3 b4 b5 b6 => by rw [w6 b b1 b5 b6, s2_off b4, s2_off b3, s2_off b2, s2_off b1, s2_off b1]
    have em : ∀ q, q ≠ 30 → q ≠ 0 → q ≠ 15 → I3 (a + 18) q = I (a + 18) q := fun q x1 x2 x3 => by rw [w5 q x1, s2_a (by omega), s2_a (by omega), s2_a (by omega), s2_k x3, s2_k x2, show I1 (a + 18) = I (a + 18) from bm 0 (by decide)]
    have e15 : I3 (a + 18) 15 = nI (ev + 1) := by rw [w5 15 (by decide), s2_a (by omega), s2_a (by omega), s2_a (by omega), s2_self]
    have e9 : ∀ y, I3 (a + 18 + 9) y = if y = x then p1 else I (a + 18 + 9) y := fun y => by
      rw [w6 _ (by omega) (by omega) (by omega), s2_a (by omega), s2_a (by omega)]
      by_cases z : y = x
      · rw [z, s2_self, if_pos rfl]
      · rw [s2_k z, if_neg z, s2_a (by omega), s2_a (by omega), bm 9 (by decide)]
    have e11 : ∀ y, I3 (a + 18 + 11) y = if y = x then nI (ev + 1) else I (a + 18 + 11) y := fun y => by
      rw [w6 _ (by omega) (by omega) (by omega), s2_a (by omega)]
      by_cases z : y = x
      · rw [z, s2_self, if_pos rfl]
      · rw [s2_k z, if_neg z, s2_a (by omega), s2_a (by omega), s2_a (by omega), bm 11 (by decide)]
    have e12 : ∀ q, I3 (a + 18 + 12) q = if q = p then -1 else I (a + 18 + 12) q := fun q => by
      rw [w6 _ (by omega) (by omega) (by omega)]
      by_cases z : q = p
      · rw [z, s2_self, if_pos rfl]
      · rw [s2_k z, if_neg z, s2_a (by omega), s2_a (by omega), s2_a (by omega), s2_a (by omega), bm 12 (by decide)]
    have ecl : ∀ c, 1 ≤ c → c ≤ 10 → c ≠ 9 → I3 (a + 18 + c) = I (a + 18 + c) := fun c c1 c2 c3 => by rw [eI _ (by omega) (by omega) (by omega) (by omega) (by omega) (by omega)]; exact bm c (by omega)
    have ea : I3 a = I1 a := eI a (by omega) (by omega) (by omega) (by omega) (by omega) (by omega)
    have u1 : upF ba x (ev + 1) x = ev + 1 := by unfold upF; rw [if_pos rfl]
    have u2 : ∀ y, y ≠ x → upF ba x (ev + 1) y = ba y := fun y hy => by unfold upF; rw [if_neg hy]
    have hH' := hH.ret hx hx0
    have hRM' : RM I3 (a + 18) no np (ev + 1) ow ca (upF ba x (ev + 1)) L cnt := ⟨by rw [em 1 (by decide) (by decide) (by decide)]; exact m3, by rw [em 5 (by decide) (by decide) (by decide)]; exact m7, e15, fun q hq => by rw [ecl 3 (by decide) (by decide) (by decide)]; exact m2 q hq, fun k hk => by rw [ecl 2 (by decide) (by decide) (by decide)]; exact (m5 k hk).1, fun y hy => by
      rw [ecl 5 (by decide) (by decide) (by decide), ecl 10 (by decide) (by decide) (by decide), e11]
      obtain ⟨q1, q2, q3⟩ := hRM.2.2.2.2.2 y hy
      refine ⟨q1, q2, ?_⟩
      by_cases z : y = x
      · rw [if_pos z, z, u1]
      · rw [if_neg z, u2 y z]; exact q3⟩
    have hsubI : ∀ b, a + 46 ≤ b → I3 b = I1 b := fun b b1 => eI b (by omega) (by omega) (by omega) (by omega) (by omega) (by omega)
    -- the places of the operation that comes back
    have hpos : ∀ k i, k < no → i < cnt k → L (16 * k + i) = x → k = ow x ∧ i = pl x := fun k i hk hi e => by
      obtain ⟨q1, q2, q3⟩ := hH.2.2.2.2.1 k hk i hi
      rw [e] at q2 q3
      exact ⟨q2.symm, q3.symm⟩
    refine ⟨rfl, by rw [w5 0 (by decide), s2_a (by omega), s2_a (by omega), s2_a (by omega), s2_k (by decide), s2_self], h0, by rw [eI _ (by omega) (by omega) (by omega) (by omega) (by omega) (by omega), b0 _ (Or.inl (by omega)) (by omega) (by omega)]; exact hs, hg, no, np, ev + 1, ns, ow, pl, ca, upF ba x (ev + 1), L, cnt, sb, ⟨h.1, hns, hH', hRM', RC.new (fun k hk => ⟨hRM'.2.2.2.2.1 k hk, (m5 k hk).2⟩) m4 w3 w4, ⟨by rw [ea, b1a 11 (by decide) (by decide)]; exact hC.1, by rw [ea, b1a 12 (by decide) (by decide)]; exact hC.2.1, by rw [ea]; exact b1a13, fun y hy => ?_, fun y hy => ?_, fun q hq => ?_⟩, fun k hk => ?_, Or.inl (by rw [ea]; exact b1a10)⟩, by omega⟩
    · rw [s2_self, gb_or1 (by omega) hy, hC.2.2.2.1 y hy]
      by_cases z : y = x
      · rw [z, u1]
        exact ⟨fun _ => ⟨hx, by omega⟩, fun _ => Or.inr rfl⟩
      · rw [u2 y z]
        exact ⟨fun w => w.elim id (fun e => absurd e z), Or.inl⟩
    · obtain ⟨q1, q2, q3⟩ := hC.2.2.2.2.1 y hy
      rw [eI (a + 2) (by omega) (by omega) (by omega) (by omega) (by omega) (by omega), eI (a + 3) (by omega) (by omega) (by omega) (by omega) (by omega) (by omega), b0 (a + 2) (Or.inl (by omega)) (by omega) (by omega), b0 (a + 3) (Or.inl (by omega)) (by omega) (by omega)]
      refine ⟨q1, q2, fun t ht => ?_⟩
      rw [s2_off (show a + 4 ≠ a by omega), q3 t ht]
      by_cases z : t = x
      · rw [z, u1, hx0]
        have := h8 y hy
        omega
      · rw [u2 t z]
    · rw [eI (a + 5) (by omega) (by omega) (by omega) (by omega) (by omega) (by omega), b1w, e12, ecl 4 (by decide) (by decide) (by decide)]
      by_cases z : q = p
      · rw [if_pos z, if_pos z]
        exact ⟨rfl, Or.inl rfl⟩
      · rw [if_neg z, if_neg z]
        obtain ⟨q1, q2⟩ := hC.2.2.2.2.2 q hq
        refine ⟨q1, ?_⟩
        rcases q2 with q2 | ⟨y, r1, r2, r3, r4⟩
        · exact Or.inl q2
        · refine Or.inr ⟨y, r1, r2, ?_, r4⟩
          rw [u2 y]
          · exact r3
          · intro e
            rw [e, hx4] at r4
            exact z ((nI_eq (by omega) (by omega)).mp r4).symm
    · have hOk := h.2.2.2.2.2.2.1 k hk
      have hbe : ∀ i, i < cnt k → cF ba L k i ≤ ev ∧ cF ca L k i ≤ ev := fun i hi => by
        have := h8 _ (hH.2.2.2.2.1 k hk i hi).1
        show ba (L (16 * k + i)) ≤ ev ∧ ca (L (16 * k + i)) ≤ ev
        omega
      by_cases hkx : k = ow x
      · subst hkx
        refine hOk.back (z := pl x) (res := p1) o2 hcz ?_ ?_ ?_ ?_ ?_ ?_ ?_ ⟨k9, y1, y2, ?_, fun i hi => ?_, ?_, ?_, ?_⟩ (fun i c _ hc => ?_) ?_ (by rw [ecl 1 (by decide) (by decide) (by decide)]) (fun i f hi f1 f2 hf => ?_) ?_ (fun i hi hne => ?_) ?_ hbe (by omega) (HRM_od hH hRM (by omega) hk) (HRM_od hH' hRM' (by omega) hk)
        · rw [hsubI _ (by omega), bu.1 6 (by decide) (by decide) (by decide) (by decide)]
        · rw [hsubI _ (by omega)]; exact bu.2.2.2.1
        · rw [hsubI _ (by omega)]; exact bu.2.2.2.2
        · rw [hsubI _ (by omega), bu.1 5 (by decide) (by decide) (by decide) (by decide)]
        · rw [hsubI _ (by omega), bu.1 16 (by decide) (by decide) (by decide) (by decide)]
        · rw [hsubI _ (by omega), bu.1 17 (by decide) (by decide) (by decide) (by decide)]
        · rw [hsubI _ (by omega)]; exact bu.2.2.1
        · rw [hsubI _ (by omega)]; exact bu.2.1
        · rw [hsubI _ (by omega), hsubI _ (by omega), hsubI _ (by omega), (bl i).1, (bl i).2.1, (bl i).2.2, if_neg hi, if_neg hi, if_neg hi]
          exact ⟨rfl, rfl, rfl⟩
        · rw [hsubI _ (by omega), (bl k9).1, if_pos rfl]
        · rw [hsubI _ (by omega), (bl k9).2.1, if_pos rfl]
          exact hO.1.1
        · rw [hsubI _ (by omega), (bl k9).2.2, if_pos rfl]
        · show I3 _ _ = I _ _
          rw [hsubI _ (by omega), bop, if_neg (fun w => hc.elim (fun r => r w.2) (fun r => r w.1))]
        · show I3 _ _ = _
          rw [hsubI _ (by omega), bop, if_pos ⟨rfl, rfl⟩]
        · show I3 (a + 18 + f) _ = I (a + 18 + f) _
          by_cases q9 : f = 9
          · subst q9
            have hne : L (16 * ow x + i) ≠ x := fun e => (hf.elim (fun r => r rfl) (fun r => r (hpos _ i hk hi e).2))
            rw [e9, if_neg hne]
          · rw [ecl f (by omega) (by omega) q9]
        · show I3 (a + 18 + 9) _ = _
          rw [o3, e9, if_pos rfl]
        · show upF ba x (ev + 1) (L _) = ba (L _)
          exact u2 _ (fun e => hne (hpos _ i hk hi e).2)
        · show upF ba x (ev + 1) (L _) = _
          rw [o3, u1]
      · have hdis := h.1.dis (show k < ns by omega) (show ow x < ns by omega) hkx
        have hlok := h.1.lo (show k < ns by omega)
        have hne : ∀ i, i < cnt k → L (16 * k + i) ≠ x := fun i hi e => hkx (hpos k i hk hi e).1
        refine hOk.other (fun b b1 b2 => ⟨by rw [hsubI b (by omega)]; exact b0 b (by omega) (by omega) (by omega), by rw [s2_off (by omega)]⟩) (by rw [ecl 1 (by decide) (by decide) (by decide)]) (fun i f hi f1 f2 => ?_) (fun i hi => ⟨rfl, u2 _ (hne i hi)⟩) (fun _ _ => rfl) (fun i hi => (hbe i hi).1) (by omega) (by omega) (HRM_od hH hRM (by omega) hk) (HRM_od hH' hRM' (by omega) hk)
        show I3 (a + 18 + f) _ = I (a + 18 + f) _
        by_cases q9 : f = 9
        · subst q9
          rw [e9, if_neg (hne i hi)]
        · rw [ecl f (by omega) (by omega) q9]
