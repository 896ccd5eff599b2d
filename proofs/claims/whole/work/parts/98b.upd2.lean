/-! THE LAW'S STEPS: events(), clear(), lose() -/
theorem s_events {s0 len a it : Nat} {scr : Nat → Int32} {g : GM} {I : MI} {J : MJ} (hJ : JX s0 len scr g I J a it) : OutC s0 len scr a it (fun P => ∀ (l : Launch) (D : va_G), Ct l yLH_events bLH_events 1 (some .int) (rmN 0 0) D [.ref a] g I J P) (fun g2 I2 J2 P => ∀ (l : Launch) (D : va_G), Ct l yMo_events bMo_events 1 (some .int) (rmN 0 0) D [.ref (a + 18)] g2 I2 J2 P) := by
  obtain ⟨h0, hs, hg, no, np, ev, ns, ow, pl, ca, ba, L, cnt, sb, h, hev⟩ := hJ
  refine ⟨_, fun l D => c_LH_events l D g I J h.1.1.1, ?_⟩
  rintro v g2 I2 J2 ⟨rfl, rfl, rfl, rfl⟩
  obtain ⟨m1, m2, m3, m4, m5, m6, -⟩ := h.mo
  refine ⟨_, rfl, m1.1, _, fun l D => c_Mo_events l D g2 I2 J2 m1.1, ?_⟩
  rintro v3 g3 I3 J3 ⟨rfl, rfl, rfl, rfl⟩
  refine ⟨by rw [m6, h.2.2.2.2.2.1.2.2.1], h0, by rw [s2_off (by omega)]; exact hs, hg, no, np, ev, ns, ow, pl, ca, ba, L, cnt, sb, h.m0 0, by omega⟩
theorem s_clear {s0 len a it : Nat} {scr : Nat → Int32} {g : GM} {I : MI} {J : MJ} (hJ : JX s0 len scr g I J a it) : OutC s0 len scr a it (fun P => ∀ (l : Launch) (D : va_G), Ct l yLH_clear bLH_clear 2 (some .int) (rmN 1 23) D [.ref a] g I J P) (fun g2 I2 J2 P => ∀ (l : Launch) (D : va_G), Ct l yMo_clear bMo_clear 2 (some .int) (rmN 2 42) D [.ref (a + 18)] g2 I2 J2 P) := by
  obtain ⟨h0, hs, hg, no, np, ev, ns, ow, pl, ca, ba, L, cnt, sb, h, hev⟩ := hJ
  refine ⟨_, fun l D => c_LH_clear l D g I J h.1.1, ?_⟩
  rintro v g2 I2 J2 ⟨rfl, rfl, rfl, q1, q2, q3, q4, q5, q6⟩
  obtain ⟨m1, m2, m3, m4, m5, m6, -⟩ := h.mo
  refine ⟨_, rfl, m1.1, _, fun l D => c_Mo_clear l D g2 I2 _ m1, ?_⟩
  rintro v3 g3 I3 J3 ⟨rfl, rfl, rfl, I1, w1, w2, w3, w4, w5, w6⟩
  have eI : ∀ b, b ≠ a + 18 → b ≠ a + 18 + 12 → b ≠ a + 18 + 17 → b ≠ a + 18 + 23 → I3 b = I2 b := fun b b1 b2 b3 b4 => by rw [w6 b b1 b3 b4, w2 b b2, s2_off b1, s2_off b1, s2_off b1, s2_off b1]
  have e12 : ∀ j, j < 8 → I3 (a + 18 + 12) j = -1 := fun j hj => by rw [w6 _ (by omega) (by omega) (by omega)]; exact w1 j hj
  have ea : I3 a = I2 a := eI a (by omega) (by omega) (by omega) (by omega)
  have e15 : I2 (a + 18) 15 = nI ev := by rw [q1 _ (by omega) (by omega)]; exact m6
  refine ⟨by rw [e15, h.2.2.2.2.2.1.2.2.1], h0, by rw [eI _ (by omega) (by omega) (by omega) (by omega), q1 _ (by omega) (by omega)]; exact hs, hg, 0, 0, 0, ns, ow, pl, ca, ba, L, cnt, sb, ⟨h.1, Nat.zero_le _, HF.zero _ _ _ _ _ _, ⟨?_, ?_, ?_, fun q hq => ?_, fun k hk => by omega, fun x hx => by omega⟩, RC.new (fun k hk => by omega) (by decide) w3 w4, ⟨by rw [ea]; exact q4, by rw [ea]; exact q5, by rw [ea]; exact q6, fun x hx => ?_, fun x hx => by omega, fun p hp => ⟨?_, Or.inl (e12 p hp)⟩⟩, fun k hk => by omega, Or.inl (by rw [ea]; exact q3)⟩, Nat.zero_le _⟩
  · rw [w5 1 (by decide), w2 _ (by omega), s2_k (by decide), s2_k (by decide), s2_self]
    rfl
  · rw [w5 5 (by decide), w2 _ (by omega), s2_k (by decide), s2_self]
    rfl
  · rw [w5 15 (by decide), w2 _ (by omega), s2_self]
    rfl
  · rw [eI _ (by omega) (by omega) (by omega) (by omega), q1 _ (by omega) (by omega)]
    exact m2 q hq
  · rw [s2_self, gb_0]
    constructor
    · intro z; cases z
    · rintro ⟨z, -⟩; omega
  · rw [eI (a + 5) (by omega) (by omega) (by omega) (by omega), e12 p hp]
    exact q2 p hp
def OutN (s0 len : Nat) (scr : Nat → Int32) (a it : Nat) (CW : (Option Value → GM → MI → MJ → Prop) → Prop) (CMo : GM → MI → MJ → (Option Value → GM → MI → MJ → Prop) → Prop) : Prop := ∃ P1, CW P1 ∧ ∀ v g2 I2 J2, P1 v g2 I2 J2 → ∃ z, v = some (.int z) ∧ I2 s0 = scr ∧ g2.1 s0 = (99, len) ∧ g2.1 (a + 18) = (6, 0) ∧ ∃ P2, CMo g2 I2 J2 P2 ∧ ∀ v3 g3 I3 J3, P2 v3 g3 I3 J3 → v3 = none ∧ I3 (a + 18) 0 = z ∧ JX s0 len scr g3 I3 J3 a (it + 1)
/-- a process: none such, one that waits for nothing, one that waits -/
theorem JV.proc {g : GM} {I : MI} {J : MJ} {a no np ev ns : Nat} {ow pl ca ba L cnt sb : Nat → Nat} (h : JV g I J a no np ev ns ow pl ca ba L cnt sb) (p : Int32) : (badP p ∧ idl I (a + 18) p = 1) ∨ ∃ q, q < 8 ∧ p = nI q ∧ ((I (a + 5) q = -1 ∧ I (a + 18 + 12) q = -1 ∧ idl I (a + 18) p = 2) ∨ ∃ x, x < np ∧ I (a + 5) q = nI x ∧ I (a + 18 + 12) q = nI x ∧ ba x = 0 ∧ I (a + 18 + 4) x = nI q ∧ idl I (a + 18) p = 0) := by
  have h48 := h.2.2.1.2.1
  by_cases hb : badP p
  · left
    refine ⟨hb, ?_⟩
    unfold idl
    rw [if_pos]
    rcases hb with q | q
    · exact Or.inl q
    · right
      have e8 : (8 : Int32) = nI 8 := rfl
      have e7 : (7 : Int32) = nI 7 := rfl
      rw [e7]
      exact Int32.lt_of_lt_of_le (nI_lt (a := 7) (b := 8) (by decide) (by decide)) q
  · right
    obtain ⟨q, q1, rfl⟩ := nI_of (fun z => hb (Or.inl z))
    have hq : q < 8 := by
      rcases Nat.lt_or_ge q 8 with z | z
      · exact z
      · exact absurd (Or.inr (nI_le (a := 8) z q1)) hb
    have hix : ix (nI q) = q := nI_clamp q1
    have hnb : ¬ (nI q < 0 ∨ 7 < nI q) := by
      rintro (z | z)
      · exact nI_pos q1 z
      · have e7 : (7 : Int32) = nI 7 := rfl
        rw [e7, nI_ltI (by decide) q1] at z
        omega
    obtain ⟨c1, c2⟩ := h.2.2.2.2.2.1.2.2.2.2.2 q hq
    refine ⟨q, hq, rfl, ?_⟩
    rcases c2 with z | ⟨x, x1, x2, x3, x4⟩
    · left
      refine ⟨c1.trans z, z, ?_⟩
      unfold idl
      rw [if_neg hnb, hix, z, if_pos (by decide)]
    · right
      refine ⟨x, x1, c1.trans x2, x2, x3, x4, ?_⟩
      unfold idl
      rw [if_neg hnb, hix, x2, if_neg (nI_pos (by omega))]
theorem s_lose {s0 len a it : Nat} {scr : Nat → Int32} {g : GM} {I : MI} {J : MJ} (hJ : JX s0 len scr g I J a it) (hit : it < 2 ^ 19) (p0 : Int32) : OutN s0 len scr a it (fun P => ∀ (l : Launch) (D : va_G), CtW l yLa_lose bLa_lose 3 (some .int) [(0, 5, 8, 13), (0, 5, 11, 19)] rmW D [.ref a, .int p0] g I J P) (fun g2 I2 J2 P => ∀ (l : Launch) (D : va_G), Ct l yMo_lose bMo_lose 2 none (rmN 1 21) D [.ref (a + 18), .int p0] g2 I2 J2 P) := by
  obtain ⟨h0, hs, hg, no, np, ev, ns, ow, pl, ca, ba, L, cnt, sb, h, hev⟩ := hJ
  have hA := h.1.1
  have a0 := hA.1
  rcases h.proc p0 with ⟨hb, hi⟩ | ⟨p, hp, rfl, ⟨hw, -, hi⟩ | ⟨x, hx, hw, hm12, hx0, hx4, hi⟩⟩
  · refine ⟨_, fun l D => w_lose_t1 l D g I J p0 a0 (fun l D => t_LH_lose_p l D g I J p0 a0 hb) (fun E g2 I2 J2 q => q.1) (by decide) (by decide) (by decide) (by decide), ?_⟩
    rintro v g2 I2 J2 ⟨rfl, -, q1, q2, q3, rfl, rfl⟩
    have h2 := h.g q1 q2 q3
    obtain ⟨m1, -⟩ := h2.mo
    refine ⟨1, rfl, hs, by rw [q1]; exact hg, m1.1, _, fun l D => c_Mo_lose_idle l D g2 _ _ p0 m1 (by rw [hi]; decide), ?_⟩
    rintro v3 g3 I3 J3 ⟨rfl, rfl, rfl, rfl⟩
    exact ⟨rfl, by rw [s2_self, hi], h0, by rw [s2_off (by omega)]; exact hs, by rw [q1]; exact hg, no, np, ev, ns, ow, pl, ca, ba, L, cnt, sb, h2.m0 _, by omega⟩
  · refine ⟨_, fun l D => w_lose_t2 l D g I J (nI p) a0 (fun l D => t_LH_lose_w l D g I J hA hp hw) (fun E g2 I2 J2 q => q.1) (by decide) (by decide) (by decide) (by decide), ?_⟩
    rintro v g2 I2 J2 ⟨rfl, -, q1, q2, q3, rfl, rfl⟩
    have h2 := h.g q1 q2 q3
    obtain ⟨m1, -⟩ := h2.mo
    refine ⟨2, rfl, hs, by rw [q1]; exact hg, m1.1, _, fun l D => c_Mo_lose_idle l D g2 _ _ (nI p) m1 (by rw [hi]; decide), ?_⟩
    rintro v3 g3 I3 J3 ⟨rfl, rfl, rfl, rfl⟩
    exact ⟨rfl, by rw [s2_self, hi], h0, by rw [s2_off (by omega)]; exact hs, by rw [q1]; exact hg, no, np, ev, ns, ow, pl, ca, ba, L, cnt, sb, h2.m0 _, by omega⟩
  · have h48 := h.2.2.1.2.1
    refine ⟨_, fun l D => w_lose_r l D g I J (nI p) a0 (fun l D => c_LH_lose l D g I J hA hp (by rw [hw]; exact lk_ne (by omega))) (fun v g2 I2 J2 q => q.1) (by decide) (by decide) (by decide) (by decide), ?_⟩
    rintro v g2 I2 J2 ⟨rfl, -, rfl, rfl, rfl⟩
    obtain ⟨m1, m2, m3, m4, m5, m6, m7, m8⟩ := h.mo
    refine ⟨0, rfl, by rw [s2_off (by omega), s2_off (by omega)]; exact hs, hg, m1.1, _, fun l D => c_Mo_lose l D _ _ _ m1 hp (by rw [s2_a (by omega), s2_a (by omega)]; exact hm12) (by omega), ?_⟩
    rintro v3 g3 I3 J3 ⟨rfl, rfl, rfl, w3, w4, w5, w6⟩
    have hH := h.2.2.1
    have hRM := h.2.2.2.1
    have hC := h.2.2.2.2.2.1
    have eI : ∀ b, b ≠ a + 18 → b ≠ a + 18 + 12 → b ≠ a + 18 + 17 → b ≠ a + 18 + 23 → b ≠ a → b ≠ a + 5 → I3 b = I b := fun b b1 b2 b3 b4 b5 b6 => by rw [w6 b b1 b3 b4, s2_off b2, s2_off b1, s2_off b1, s2_off b5, s2_off b6]
    have em : ∀ q, q ≠ 30 → q ≠ 0 → q ≠ 15 → I3 (a + 18) q = I (a + 18) q := fun q x1 x2 x3 => by rw [w5 q x1, s2_a (by omega), s2_k x3, s2_k x2, s2_a (by omega), s2_a (by omega)]
    have e15 : I3 (a + 18) 15 = nI (ev + 1) := by rw [w5 15 (by decide), s2_a (by omega), s2_self, s2_a (by omega), s2_a (by omega), m6, nI_1]
    have ea : ∀ q, q ≠ 13 → I3 a q = I a q := fun q hq => by rw [w6 a (by omega) (by omega) (by omega), s2_a (by omega), s2_a (by omega), s2_a (by omega), s2_k hq, s2_a (by omega)]
    have ea13 : I3 a 13 = nI (ev + 1) := by rw [w6 a (by omega) (by omega) (by omega), s2_a (by omega), s2_a (by omega), s2_a (by omega), s2_self, hC.2.2.1, nI_1]
    have e5 : ∀ q, I3 (a + 5) q = if q = p then -1 else I (a + 5) q := fun q => by
      rw [w6 _ (by omega) (by omega) (by omega), s2_a (by omega), s2_a (by omega), s2_a (by omega), s2_a (by omega)]
      by_cases z : q = p
      · rw [z, s2_self, if_pos rfl]
      · rw [s2_k z, if_neg z]
    have e12 : ∀ q, I3 (a + 18 + 12) q = if q = p then -1 else I (a + 18 + 12) q := fun q => by
      rw [w6 _ (by omega) (by omega) (by omega)]
      by_cases z : q = p
      · rw [z, s2_self, if_pos rfl]
      · rw [s2_k z, if_neg z, s2_a (by omega), s2_a (by omega), s2_a (by omega), s2_a (by omega)]
    have ecl : ∀ c, 1 ≤ c → c ≤ 11 → I3 (a + 18 + c) = I (a + 18 + c) := fun c c1 c2 => eI _ (by omega) (by omega) (by omega) (by omega) (by omega) (by omega)
    have hRM' : RM I3 (a + 18) no np (ev + 1) ow ca ba L cnt := ⟨by rw [em 1 (by decide) (by decide) (by decide)]; exact m3, by rw [em 5 (by decide) (by decide) (by decide)]; exact m7, e15, fun q hq => by rw [ecl 3 (by decide) (by decide)]; exact m2 q hq, fun k hk => by rw [ecl 2 (by decide) (by decide)]; exact (m5 k hk).1, fun y hy => by rw [ecl 5 (by decide) (by decide), ecl 10 (by decide) (by decide), ecl 11 (by decide) (by decide)]; exact hRM.2.2.2.2.2 y hy⟩
    have hsub : ∀ k, k < no → ∀ b, sb k ≤ b → I3 b = I b := fun k hk b b1 => by
      have := h.1.lo (show k < ns by have := h.2.1; omega)
      exact eI b (by omega) (by omega) (by omega) (by omega) (by omega) (by omega)
    refine ⟨rfl, by rw [w5 0 (by decide), s2_a (by omega), s2_k (by decide), s2_self], h0, by rw [eI _ (by omega) (by omega) (by omega) (by omega) (by omega) (by omega)]; exact hs, hg, no, np, ev + 1, ns, ow, pl, ca, ba, L, cnt, sb, ⟨h.1, h.2.1, hH.time, hRM', RC.new (fun k hk => ⟨hRM'.2.2.2.2.1 k hk, (m5 k hk).2⟩) m4 w3 w4, ⟨by rw [ea 11 (by decide)]; exact hC.1, by rw [ea 12 (by decide)]; exact hC.2.1, ea13, hC.2.2.2.1, fun y hy => by rw [eI (a + 2) (by omega) (by omega) (by omega) (by omega) (by omega) (by omega), eI (a + 3) (by omega) (by omega) (by omega) (by omega) (by omega) (by omega)]; exact hC.2.2.2.2.1 y hy, fun q hq => ?_⟩, fun k hk => ?_, ?_⟩, by omega⟩
    · rw [e5, e12, ecl 4 (by decide) (by decide)]
      by_cases z : q = p
      · rw [if_pos z, if_pos z]
        exact ⟨rfl, Or.inl rfl⟩
      · rw [if_neg z, if_neg z]
        exact hC.2.2.2.2.2 q hq
    · refine (h.2.2.2.2.2.2.1 k hk).other (fun b b1 _ => ⟨hsub k hk b b1, rfl⟩) (by rw [ecl 1 (by decide) (by decide)]) (fun i f hi f1 f2 => ?_) (fun _ _ => ⟨rfl, rfl⟩) (fun _ _ => rfl) (fun i hi => ?_) (by omega) (by omega) (HRM_od hH hRM (by omega) hk) (HRM_od hH.time hRM' (by omega) hk)
      · show I3 _ _ = I _ _
        rw [ecl f (by omega) (by omega)]
      · have := hH.2.2.2.2.2.2.2.1 _ (hH.2.2.2.2.1 k hk i hi).1
        show ba (L (16 * k + i)) ≤ ev
        omega
    · rw [ea 10 (by decide)]
      rcases h.2.2.2.2.2.2.2 with z | ⟨z, r⟩
      · exact Or.inl z
      · exact Or.inr ⟨z, r.reg (fun k hk => ⟨fun i q _ => by show I3 _ _ = I _ _; rw [hsub k hk _ (by omega)], by rw [hsub k hk _ (Nat.le_refl _)], by rw [hsub k hk _ (Nat.le_refl _)]⟩) rfl (ea 9 (by decide)) (eI _ (by omega) (by omega) (by omega) (by omega) (by omega) (by omega)) (eI _ (by omega) (by omega) (by omega) (by omega) (by omega) (by omega))⟩
