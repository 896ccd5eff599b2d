/-! THE LAW'S STEPS: queries -/
def JX (s0 len : Nat) (scr : Nat → Int32) (g : GM) (I : MI) (J : MJ) (a it : Nat) : Prop := s0 < a ∧ I s0 = scr ∧ g.1 s0 = (99, len) ∧ ∃ (no np ev ns : Nat) (ow pl ca ba L cnt sb : Nat → Nat), JV g I J a no np ev ns ow pl ca ba L cnt sb ∧ ev ≤ it
/-- the class's call, then the reference's: both throw the same, or both answer the same -/
def OutI (s0 len : Nat) (scr : Nat → Int32) (a it : Nat) (CW : (Option Value → GM → MI → MJ → Prop) → Prop) (CMo : GM → MI → MJ → (Option Value → GM → MI → MJ → Prop) → Prop) : Prop := ∃ P1, CW P1 ∧ ∀ v g2 I2 J2, P1 v g2 I2 J2 → ∃ z, v = some (.int z) ∧ I2 s0 = scr ∧ g2.1 s0 = (99, len) ∧ g2.1 (a + 18) = (6, 0) ∧ g2.1 (a + 45) = (11, 1) ∧ ∃ P2, CMo g2 I2 J2 P2 ∧ ∀ v3 g3 I3 J3, P2 v3 g3 I3 J3 → ∃ b, v3 = some (.int b) ∧ I3 (a + 18) 0 = z ∧ (z = 0 → J3 (a + 45) 0 = b.toInt64) ∧ JX s0 len scr g3 I3 J3 a (it + 1)
def OutL (s0 len : Nat) (scr : Nat → Int32) (a it : Nat) (CW : (Option Value → GM → MI → MJ → Prop) → Prop) (CMo : GM → MI → MJ → (Option Value → GM → MI → MJ → Prop) → Prop) : Prop := ∃ P1, CW P1 ∧ ∀ v g2 I2 J2, P1 v g2 I2 J2 → ∃ z, v = some (.int z) ∧ I2 s0 = scr ∧ g2.1 s0 = (99, len) ∧ g2.1 (a + 18) = (6, 0) ∧ g2.1 (a + 45) = (11, 1) ∧ ∃ P2, CMo g2 I2 J2 P2 ∧ ∀ v3 g3 I3 J3, P2 v3 g3 I3 J3 → ∃ b, v3 = some (.long b) ∧ I3 (a + 18) 0 = z ∧ (z = 0 → J3 (a + 45) 0 = b) ∧ JX s0 len scr g3 I3 J3 a (it + 1)
theorem noOb_k {no : Nat} {p : Int32} (h : ¬ noOb no p) : ∃ k, k < no ∧ p = nI k := by
  obtain ⟨b, b1, b2⟩ := nI_of (fun q => h (Or.inl q))
  refine ⟨b, ?_, b2⟩
  rcases Nat.lt_or_ge b no with q | q
  · exact q
  · exact absurd (Or.inr (by rw [b2]; exact nI_le q b1)) h
theorem JV.mo {g : GM} {I : MI} {J : MJ} {a no np ev ns : Nat} {ow pl ca ba L cnt sb : Nat → Nat} (h : JV g I J a no np ev ns ow pl ca ba L cnt sb) : MoAt g (a + 18) ∧ LsOK I (a + 18) L ∧ I (a + 18) 1 = nI no ∧ no ≤ 6 ∧ (∀ k, k < no → I (a + 18 + 2) k = nI (cnt k) ∧ cnt k ≤ 16) ∧ I (a + 18) 15 = nI ev ∧ I (a + 18) 5 = nI np ∧ np ≤ 48 := ⟨h.1.2.1, h.2.2.2.1.2.2.2.1, h.2.2.2.1.1, h.2.2.1.1, fun k hk => ⟨h.2.2.2.1.2.2.2.2.1 k hk, h.2.2.1.2.2.1 k hk⟩, h.2.2.2.1.2.2.1, h.2.2.2.1.2.1, h.2.2.1.2.1⟩
theorem JV.fnd {g : GM} {I : MI} {J : MJ} {a no np ev ns : Nat} {ow pl ca ba L cnt sb : Nat → Nat} (h : JV g I J a no np ev ns ow pl ca ba L cnt sb) (hev : ev < 2 ^ 20) {k : Nat} (hk : k < no) (h9 : I (sb k) 9 = 1) (hf : rfnd (rE I (a + 18) L k) (Nf L k) (I (a + 18 + 1) k) (cnt k) (I (a + 18) 15) (a + 18) k I J) : I (sb k) 10 = I (a + 18 + 18) k ∧ I (sb k) 11 = I (a + 18 + 19) k ∧ J (sb k) 12 = J (a + 18 + 20) k ∧ I (sb k) 13 = I (a + 18 + 21) k := by
  obtain ⟨o1, o2, o3, -⟩ := h.2.2.2.2.2.2.1 k hk
  have hod := (h.od hev hk).1 (by omega) o3
  rw [h.mo.2.2.2.2.2.1, ← o2] at hf
  refine ans_fnd hod ?_ hf
  rcases o1.2.2.2 h9 with q | ⟨X, q1, q2, q3, q4, q5, -⟩
  · exact Or.inl q
  · exact Or.inr ⟨X, q1, q2, q3, q4, q5⟩
theorem s_possibilities {s0 len a it : Nat} {scr : Nat → Int32} {g : GM} {I : MI} {J : MJ} (hJ : JX s0 len scr g I J a it) (hit : it < 2 ^ 19) (p0 : Int32) : OutI s0 len scr a it (fun P => ∀ (l : Launch) (D : va_G), CtW l yLa_possibilities bLa_possibilities 4 (some .int) [(0, 9, 12, 13)] rmW D [.ref a, .int p0, .ref (a + 45)] g I J P) (fun g2 I2 J2 P => ∀ (l : Launch) (D : va_G), Ct l yMo_possibilities bMo_possibilities 2 (some .int) (rmN 6 159) D [.ref (a + 18), .int p0] g2 I2 J2 P) := by
  obtain ⟨h0, hs, hg, no, np, ev, ns, ow, pl, ca, ba, L, cnt, sb, h, hev⟩ := hJ
  have hA := h.1.1
  have a0 := hA.1
  have ho := h.1.2.2.1
  have hC := h.2.2.2.2.2.1
  by_cases hkn : noOb no p0
  · refine ⟨_, fun l D => w_possibilities_t1 l D g I J p0 a0 (fun l D => t_LH_possibilities l D g I J p0 a0 hC.1 hkn) (fun E g2 I2 J2 q => q.1) (by decide) (by decide) (by decide) (by decide), ?_⟩
    rintro v g2 I2 J2 ⟨rfl, -, q1, q2, q3, rfl, rfl⟩
    have h2 := h.g q1 q2 q3
    obtain ⟨m1, m2, m3, m4, m5, m6, -⟩ := h2.mo
    refine ⟨1, rfl, hs, by rw [q1]; exact hg, m1.1, by rw [q1]; exact ho, _, fun l D => c_Mo_possibilities_no l D g2 _ _ p0 m1 m3 hkn, ?_⟩
    rintro v3 g3 I3 J3 ⟨rfl, rfl, rfl, rfl⟩
    exact ⟨0, rfl, s2_self _ _ _ _, fun e => absurd e (by decide), h0, by rw [s2_off (by omega)]; exact hs, by rw [q1]; exact hg, no, np, ev, ns, ow, pl, ca, ba, L, cnt, sb, h2.m0 1, by omega⟩
  · obtain ⟨k, hk, rfl⟩ := noOb_k hkn
    have hns := h.2.1
    have hlo := h.1.lo (show k < ns by omega)
    have hO := h.2.2.2.2.2.2.1 k hk
    refine ⟨_, fun l D => w_possibilities_r l D g I J (nI k) a0 (fun l D => c_LH_possibilities l D g I J hA hC.1 h.mo.2.2.2.1 hk (h.1.sub (by omega)) hO.1.1 hO.1.2.1) (fun v g2 I2 J2 q => ⟨⟨_, q.1⟩, by rw [q.2.2.1]; exact ho⟩) (by decide) (by decide) (by decide) (by decide), ?_⟩
    rintro v g2 I2 J2 ⟨rfl, z, J1, ⟨hz, hq⟩, rfl⟩
    obtain ⟨rfl, h2, hb, h9, hls⟩ := h.learn hk hq
    have h2 := h2.out z.toInt64
    obtain ⟨m1, m2, m3, m4, m5, m6, -⟩ := h2.mo
    refine ⟨0, rfl, by rw [hb _ h0]; exact hs, hg, m1.1, ho, _, fun l D => c_Mo_possibilities l D g2 I2 _ m1 m2 m3 m4 hk (m5 k hk).1 (m5 k hk).2, ?_⟩
    rintro v3 g3 I3 J3 ⟨rfl, hq3⟩
    obtain ⟨rfl, h3, hb3, e0, hf, -⟩ := h2.look hk hq3
    refine ⟨_, rfl, e0, fun _ => ?_, h0, by rw [(hb3 _ (by omega)).1, hb _ h0]; exact hs, hg, no, np, ev, ns, ow, pl, ca, ba, L, cnt, sb, h3, by omega⟩
    · have ez : z = I2 (sb k) 10 := by
        injection hz with hz
        injection hz
      subst ez
      rw [(hb3 _ (by omega)).2, s2_self]
      have e := (h3.fnd (by omega) hk (by rw [(hb3 _ (by omega)).1]; exact h9) hf).1
      rw [← e, (hb3 _ (by omega)).1]
theorem s_judge {s0 len a it : Nat} {scr : Nat → Int32} {g : GM} {I : MI} {J : MJ} (hJ : JX s0 len scr g I J a it) (hit : it < 2 ^ 19) (p0 : Int32) : OutI s0 len scr a it (fun P => ∀ (l : Launch) (D : va_G), CtW l yLa_judge bLa_judge 4 (some .int) [(0, 9, 12, 13)] rmW D [.ref a, .int p0, .ref (a + 45)] g I J P) (fun g2 I2 J2 P => ∀ (l : Launch) (D : va_G), Ct l yMo_judge bMo_judge 2 (some .int) (rmN 6 159) D [.ref (a + 18), .int p0] g2 I2 J2 P) := by
  obtain ⟨h0, hs, hg, no, np, ev, ns, ow, pl, ca, ba, L, cnt, sb, h, hev⟩ := hJ
  have hA := h.1.1
  have a0 := hA.1
  have ho := h.1.2.2.1
  have hC := h.2.2.2.2.2.1
  by_cases hkn : noOb no p0
  · refine ⟨_, fun l D => w_judge_t1 l D g I J p0 a0 (fun l D => t_LH_judge l D g I J p0 a0 hC.1 hkn) (fun E g2 I2 J2 q => q.1) (by decide) (by decide) (by decide) (by decide), ?_⟩
    rintro v g2 I2 J2 ⟨rfl, -, q1, q2, q3, rfl, rfl⟩
    have h2 := h.g q1 q2 q3
    obtain ⟨m1, m2, m3, m4, m5, m6, -⟩ := h2.mo
    refine ⟨1, rfl, hs, by rw [q1]; exact hg, m1.1, by rw [q1]; exact ho, _, fun l D => c_Mo_judge_no l D g2 _ _ p0 m1 m3 hkn, ?_⟩
    rintro v3 g3 I3 J3 ⟨rfl, rfl, rfl, rfl⟩
    exact ⟨0, rfl, s2_self _ _ _ _, fun e => absurd e (by decide), h0, by rw [s2_off (by omega)]; exact hs, by rw [q1]; exact hg, no, np, ev, ns, ow, pl, ca, ba, L, cnt, sb, h2.m0 1, by omega⟩
  · obtain ⟨k, hk, rfl⟩ := noOb_k hkn
    have hns := h.2.1
    have hlo := h.1.lo (show k < ns by omega)
    have hO := h.2.2.2.2.2.2.1 k hk
    refine ⟨_, fun l D => w_judge_r l D g I J (nI k) a0 (fun l D => c_LH_judge l D g I J hA hC.1 h.mo.2.2.2.1 hk (h.1.sub (by omega)) hO.1.1 hO.1.2.1) (fun v g2 I2 J2 q => ⟨⟨_, q.1⟩, by rw [q.2.2.1]; exact ho⟩) (by decide) (by decide) (by decide) (by decide), ?_⟩
    rintro v g2 I2 J2 ⟨rfl, z, J1, ⟨hz, hq⟩, rfl⟩
    obtain ⟨rfl, h2, hb, h9, hls⟩ := h.learn hk hq
    have h2 := h2.out z.toInt64
    obtain ⟨m1, m2, m3, m4, m5, m6, -⟩ := h2.mo
    refine ⟨0, rfl, by rw [hb _ h0]; exact hs, hg, m1.1, ho, _, fun l D => c_Mo_judge l D g2 I2 _ m1 m2 m3 m4 hk (m5 k hk).1 (m5 k hk).2, ?_⟩
    rintro v3 g3 I3 J3 ⟨rfl, hq3⟩
    obtain ⟨rfl, h3, hb3, e0, hf, -⟩ := h2.look hk hq3
    refine ⟨_, rfl, e0, fun _ => ?_, h0, by rw [(hb3 _ (by omega)).1, hb _ h0]; exact hs, hg, no, np, ev, ns, ow, pl, ca, ba, L, cnt, sb, h3, by omega⟩
    · have ez : z = I2 (sb k) 11 := by
        injection hz with hz
        injection hz
      subst ez
      rw [(hb3 _ (by omega)).2, s2_self]
      have e := (h3.fnd (by omega) hk (by rw [(hb3 _ (by omega)).1]; exact h9) hf).2.1
      rw [← e, (hb3 _ (by omega)).1]
theorem s_lasts {s0 len a it : Nat} {scr : Nat → Int32} {g : GM} {I : MI} {J : MJ} (hJ : JX s0 len scr g I J a it) (hit : it < 2 ^ 19) (p0 : Int32) : OutI s0 len scr a it (fun P => ∀ (l : Launch) (D : va_G), CtW l yLa_lasts bLa_lasts 4 (some .int) [(0, 9, 12, 13)] rmW D [.ref a, .int p0, .ref (a + 45)] g I J P) (fun g2 I2 J2 P => ∀ (l : Launch) (D : va_G), Ct l yMo_lasts bMo_lasts 2 (some .int) (rmN 6 159) D [.ref (a + 18), .int p0] g2 I2 J2 P) := by
  obtain ⟨h0, hs, hg, no, np, ev, ns, ow, pl, ca, ba, L, cnt, sb, h, hev⟩ := hJ
  have hA := h.1.1
  have a0 := hA.1
  have ho := h.1.2.2.1
  have hC := h.2.2.2.2.2.1
  by_cases hkn : noOb no p0
  · refine ⟨_, fun l D => w_lasts_t1 l D g I J p0 a0 (fun l D => t_LH_lasts l D g I J p0 a0 hC.1 hkn) (fun E g2 I2 J2 q => q.1) (by decide) (by decide) (by decide) (by decide), ?_⟩
    rintro v g2 I2 J2 ⟨rfl, -, q1, q2, q3, rfl, rfl⟩
    have h2 := h.g q1 q2 q3
    obtain ⟨m1, m2, m3, m4, m5, m6, -⟩ := h2.mo
    refine ⟨1, rfl, hs, by rw [q1]; exact hg, m1.1, by rw [q1]; exact ho, _, fun l D => c_Mo_lasts_no l D g2 _ _ p0 m1 m3 hkn, ?_⟩
    rintro v3 g3 I3 J3 ⟨rfl, rfl, rfl, rfl⟩
    exact ⟨0, rfl, s2_self _ _ _ _, fun e => absurd e (by decide), h0, by rw [s2_off (by omega)]; exact hs, by rw [q1]; exact hg, no, np, ev, ns, ow, pl, ca, ba, L, cnt, sb, h2.m0 1, by omega⟩
  · obtain ⟨k, hk, rfl⟩ := noOb_k hkn
    have hns := h.2.1
    have hlo := h.1.lo (show k < ns by omega)
    have hO := h.2.2.2.2.2.2.1 k hk
    refine ⟨_, fun l D => w_lasts_r l D g I J (nI k) a0 (fun l D => c_LH_lasts l D g I J hA hC.1 h.mo.2.2.2.1 hk (h.1.sub (by omega)) hO.1.1 hO.1.2.1) (fun v g2 I2 J2 q => ⟨⟨_, q.1⟩, by rw [q.2.2.1]; exact ho⟩) (by decide) (by decide) (by decide) (by decide), ?_⟩
    rintro v g2 I2 J2 ⟨rfl, z, J1, ⟨hz, hq⟩, rfl⟩
    obtain ⟨rfl, h2, hb, h9, hls⟩ := h.learn hk hq
    have h2 := h2.out z.toInt64
    obtain ⟨m1, m2, m3, m4, m5, m6, -⟩ := h2.mo
    refine ⟨0, rfl, by rw [hb _ h0]; exact hs, hg, m1.1, ho, _, fun l D => c_Mo_lasts l D g2 I2 _ m1 m2 m3 m4 hk (m5 k hk).1 (m5 k hk).2, ?_⟩
    rintro v3 g3 I3 J3 ⟨rfl, hq3⟩
    obtain ⟨rfl, h3, hb3, e0, hf, -⟩ := h2.look hk hq3
    refine ⟨_, rfl, e0, fun _ => ?_, h0, by rw [(hb3 _ (by omega)).1, hb _ h0]; exact hs, hg, no, np, ev, ns, ow, pl, ca, ba, L, cnt, sb, h3, by omega⟩
    · have ez : z = I2 (sb k) 13 := by
        injection hz with hz
        injection hz
      subst ez
      rw [(hb3 _ (by omega)).2, s2_self]
      have e := (h3.fnd (by omega) hk (by rw [(hb3 _ (by omega)).1]; exact h9) hf).2.2.2
      rw [← e, (hb3 _ (by omega)).1]
theorem s_ways {s0 len a it : Nat} {scr : Nat → Int32} {g : GM} {I : MI} {J : MJ} (hJ : JX s0 len scr g I J a it) (hit : it < 2 ^ 19) (p0 : Int32) : OutL s0 len scr a it (fun P => ∀ (l : Launch) (D : va_G), CtW l yLa_ways bLa_ways 4 (some .int) [(0, 8, 11, 13)] rmW D [.ref a, .int p0, .ref (a + 45)] g I J P) (fun g2 I2 J2 P => ∀ (l : Launch) (D : va_G), Ct l yMo_ways bMo_ways 2 (some .long) (rmN 6 159) D [.ref (a + 18), .int p0] g2 I2 J2 P) := by
  obtain ⟨h0, hs, hg, no, np, ev, ns, ow, pl, ca, ba, L, cnt, sb, h, hev⟩ := hJ
  have hA := h.1.1
  have a0 := hA.1
  have ho := h.1.2.2.1
  have hC := h.2.2.2.2.2.1
  by_cases hkn : noOb no p0
  · refine ⟨_, fun l D => w_ways_t1 l D g I J p0 a0 (fun l D => t_LH_ways l D g I J p0 a0 hC.1 hkn) (fun E g2 I2 J2 q => q.1) (by decide) (by decide) (by decide) (by decide), ?_⟩
    rintro v g2 I2 J2 ⟨rfl, -, q1, q2, q3, rfl, rfl⟩
    have h2 := h.g q1 q2 q3
    obtain ⟨m1, m2, m3, m4, m5, m6, -⟩ := h2.mo
    refine ⟨1, rfl, hs, by rw [q1]; exact hg, m1.1, by rw [q1]; exact ho, _, fun l D => c_Mo_ways_no l D g2 _ _ p0 m1 m3 hkn, ?_⟩
    rintro v3 g3 I3 J3 ⟨rfl, rfl, rfl, rfl⟩
    exact ⟨0, rfl, s2_self _ _ _ _, fun e => absurd e (by decide), h0, by rw [s2_off (by omega)]; exact hs, by rw [q1]; exact hg, no, np, ev, ns, ow, pl, ca, ba, L, cnt, sb, h2.m0 1, by omega⟩
  · obtain ⟨k, hk, rfl⟩ := noOb_k hkn
    have hns := h.2.1
    have hlo := h.1.lo (show k < ns by omega)
    have hO := h.2.2.2.2.2.2.1 k hk
    refine ⟨_, fun l D => w_ways_r l D g I J (nI k) a0 (fun l D => c_LH_ways l D g I J hA hC.1 h.mo.2.2.2.1 hk (h.1.sub (by omega)) hO.1.1 hO.1.2.1) (fun v g2 I2 J2 q => ⟨⟨_, q.1⟩, by rw [q.2.2.1]; exact ho⟩) (by decide) (by decide) (by decide) (by decide), ?_⟩
    rintro v g2 I2 J2 ⟨rfl, z, J1, ⟨hz, hq⟩, rfl⟩
    obtain ⟨rfl, h2, hb, h9, hls⟩ := h.learn hk hq
    have h2 := h2.out z
    obtain ⟨m1, m2, m3, m4, m5, m6, -⟩ := h2.mo
    refine ⟨0, rfl, by rw [hb _ h0]; exact hs, hg, m1.1, ho, _, fun l D => c_Mo_ways l D g2 I2 _ m1 m2 m3 m4 hk (m5 k hk).1 (m5 k hk).2, ?_⟩
    rintro v3 g3 I3 J3 ⟨rfl, hq3⟩
    obtain ⟨rfl, h3, hb3, e0, hf, -⟩ := h2.look hk hq3
    refine ⟨_, rfl, e0, fun _ => ?_, h0, by rw [(hb3 _ (by omega)).1, hb _ h0]; exact hs, hg, no, np, ev, ns, ow, pl, ca, ba, L, cnt, sb, h3, by omega⟩
    · have ez : z = J1 (sb k) 12 := by
        injection hz with hz
        injection hz
      subst ez
      rw [(hb3 _ (by omega)).2, s2_self]
      have e := (h3.fnd (by omega) hk (by rw [(hb3 _ (by omega)).1]; exact h9) hf).2.2.1
      rw [← e, (hb3 _ (by omega)).2]
      rw [s2_a (by omega)]
