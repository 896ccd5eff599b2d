theorem s_judgeOwn {s0 len a it : Nat} {scr : Nat → Int32} {g : GM} {I : MI} {J : MJ} (hJ : JX s0 len scr g I J a it) (hit : it < 2 ^ 19) (p0 : Int32) : OutI s0 len scr a it (fun P => ∀ (l : Launch) (D : va_G), CtW l yLa_judgeOwn bLa_judgeOwn 4 (some .int) [(0, 9, 12, 13)] rmW D [.ref a, .int p0, .ref (a + 45)] g I J P) (fun g2 I2 J2 P => ∀ (l : Launch) (D : va_G), Ct l yMo_judgeOwn bMo_judgeOwn 3 (some .int) (rmN 6 159) D [.ref (a + 18), .int p0] g2 I2 J2 P) := by
  obtain ⟨h0, hs, hg, no, np, ev, ns, ow, pl, ca, ba, L, cnt, sb, h, hev⟩ := hJ
  have hA := h.1.1
  have a0 := hA.1
  have ho := h.1.2.2.1
  have hC := h.2.2.2.2.2.1
  by_cases hkn : noOb no p0
  · refine ⟨_, fun l D => w_judgeOwn_t1 l D g I J p0 a0 (fun l D => t_LH_judgeOwn l D g I J p0 a0 hC.1 hkn) (fun E g2 I2 J2 q => q.1) (by decide) (by decide) (by decide) (by decide), ?_⟩
    rintro v g2 I2 J2 ⟨rfl, -, q1, q2, q3, rfl, rfl⟩
    have h2 := h.g q1 q2 q3
    obtain ⟨m1, m2, m3, m4, m5, m6, -⟩ := h2.mo
    refine ⟨1, rfl, hs, by rw [q1]; exact hg, m1.1, by rw [q1]; exact ho, _, fun l D => c_Mo_judgeOwn_no l D g2 _ _ p0 m1 m3 hkn, ?_⟩
    rintro v3 g3 I3 J3 ⟨rfl, rfl, rfl, rfl⟩
    exact ⟨0, rfl, s2_self _ _ _ _, fun e => absurd e (by decide), h0, by rw [s2_off (by omega)]; exact hs, by rw [q1]; exact hg, no, np, ev, ns, ow, pl, ca, ba, L, cnt, sb, h2.m0 1, by omega⟩
  · obtain ⟨k, hk, rfl⟩ := noOb_k hkn
    have hns := h.2.1
    have hlo := h.1.lo (show k < ns by omega)
    have hO := h.2.2.2.2.2.2.1 k hk
    refine ⟨_, fun l D => w_judgeOwn_r l D g I J (nI k) a0 (fun l D => c_LH_judgeOwn l D g I J hA hC.1 h.mo.2.2.2.1 hk (h.1.sub (by omega)) hO.1.1 hO.1.2.1) (fun v g2 I2 J2 q => ⟨⟨_, q.1⟩, by rw [q.2.2.1]; exact ho⟩) (by decide) (by decide) (by decide) (by decide), ?_⟩
    rintro v g2 I2 J2 ⟨rfl, z, J1, ⟨hz, hq⟩, rfl⟩
    obtain ⟨rfl, h2, hb, hown⟩ := h.own hk hq
    have h2 := h2.out z.toInt64
    obtain ⟨m1, m2, m3, m4, m5, m6, -⟩ := h2.mo
    refine ⟨0, rfl, by rw [hb _ h0]; exact hs, hg, m1.1, ho, _, fun l D => c_Mo_judgeOwn l D g2 I2 _ m1 m2 m3 m4 hk (m5 k hk).1 (m5 k hk).2, ?_⟩
    rintro v3 g3 I3 J3 ⟨rfl, rfl, hoff⟩
    have hm0 := h2.m0 0
    obtain ⟨h3, hb3⟩ := hm0.brkM hk hoff.H (by
      rw [hoff.1 (a + 18 + 23) (by omega) (by omega), hoff.1 (a + 18 + 22) (by omega) (by omega)]
      exact (hm0.2.2.2.2.1.1 k hk).2)
    refine ⟨_, rfl, by rw [hoff.2.1 0 (by decide) (by decide), s2_self], fun _ => ?_, h0, by rw [(hb3 _ (by omega)).1, s2_off (by omega), hb _ h0]; exact hs, hg, no, np, ev, ns, ow, pl, ca, ba, L, cnt, sb, h3, by omega⟩
    have ez : z = I2 (sb k) 15 := by
      injection hz with hz
      injection hz
    subst ez
    rw [(hb3 _ (by omega)).2, s2_self]
    obtain ⟨-, o2, o3, -⟩ := h2.2.2.2.2.2.2.1 k hk
    rw [hown, ans_own ((h2.od (by omega) hk).1 (by omega) o3), m6, ← o2]
theorem s_broken {s0 len a it : Nat} {scr : Nat → Int32} {g : GM} {I : MI} {J : MJ} (hJ : JX s0 len scr g I J a it) (hit : it < 2 ^ 19) (p0 : Int32) : OutI s0 len scr a it (fun P => ∀ (l : Launch) (D : va_G), CtW l yLa_broken bLa_broken 4 (some .int) [(0, 9, 12, 13)] rmW D [.ref a, .int p0, .ref (a + 45)] g I J P) (fun g2 I2 J2 P => ∀ (l : Launch) (D : va_G), Ct l yMo_broken bMo_broken 4 (some .int) (rmN 6 159) D [.ref (a + 18), .int p0] g2 I2 J2 P) := by
  obtain ⟨h0, hs, hg, no, np, ev, ns, ow, pl, ca, ba, L, cnt, sb, h, hev⟩ := hJ
  have hA := h.1.1
  have a0 := hA.1
  have ho := h.1.2.2.1
  have hC := h.2.2.2.2.2.1
  by_cases hkn : noOb no p0
  · refine ⟨_, fun l D => w_broken_t1 l D g I J p0 a0 (fun l D => t_LH_broken l D g I J p0 a0 hC.1 hkn) (fun E g2 I2 J2 q => q.1) (by decide) (by decide) (by decide) (by decide), ?_⟩
    rintro v g2 I2 J2 ⟨rfl, -, q1, q2, q3, rfl, rfl⟩
    have h2 := h.g q1 q2 q3
    obtain ⟨m1, m2, m3, m4, m5, m6, -⟩ := h2.mo
    refine ⟨1, rfl, hs, by rw [q1]; exact hg, m1.1, by rw [q1]; exact ho, _, fun l D => c_Mo_broken_no l D g2 _ _ p0 m1 m3 hkn, ?_⟩
    rintro v3 g3 I3 J3 ⟨rfl, rfl, rfl, rfl⟩
    exact ⟨0, rfl, s2_self _ _ _ _, fun e => absurd e (by decide), h0, by rw [s2_off (by omega)]; exact hs, by rw [q1]; exact hg, no, np, ev, ns, ow, pl, ca, ba, L, cnt, sb, h2.m0 1, by omega⟩
  · obtain ⟨k, hk, rfl⟩ := noOb_k hkn
    have hns := h.2.1
    have hlo := h.1.lo (show k < ns by omega)
    have hO := h.2.2.2.2.2.2.1 k hk
    obtain ⟨q, bl, cn, x1, x2, x3, x4, x5⟩ := hO.bl
    refine ⟨_, fun l D => w_broken_r l D g I J (nI k) a0 (fun l D => c_LH_broken l D g I J hA hC.1 h.mo.2.2.2.1 hk (h.1.sub (by omega)) hO.1.1 hO.1.2.1 x1 x2 x3 x4 x5) (fun v g2 I2 J2 q => ⟨⟨_, q.1⟩, by rw [q.2.2.1]; exact ho⟩) (by decide) (by decide) (by decide) (by decide), ?_⟩
    rintro v g2 I2 J2 ⟨rfl, z, J1, ⟨hz, hq⟩, rfl⟩
    obtain ⟨rfl, h2, hb, hbr⟩ := h.brk (by omega) hk x1 x2 x3 x4 x5 hq
    have h2 := h2.out z.toInt64
    obtain ⟨m1, m2, m3, m4, m5, m6, -⟩ := h2.mo
    refine ⟨0, rfl, by rw [hb _ h0]; exact hs, hg, m1.1, ho, _, fun l D => c_Mo_broken l D g2 I2 _ m1 m2 m3 m4 hk (m5 k hk).1 (m5 k hk).2 m6 (by omega), ?_⟩
    rintro v3 g3 I3 J3 ⟨rfl, rfl, hq3⟩
    have ez : z = I2 (sb k) 17 := by
      injection hz with hz
      injection hz
    subst ez
    have hm0 := h2.m0 0
    have eR : brkR (rE (s2 I2 (a + 18) 0 0) (a + 18) L k) (Nf L k) (s2 I2 (a + 18) 0 0 (a + 18 + 1) k) (cnt k) ev = I2 (sb k) 17 := by
      rw [hbr, s2_a (by omega), brkR_congr (eqR_mem (fun f f1 f2 => s2_off (by omega)))]
    rcases hq3 with ⟨y1, rfl, rfl⟩ | ⟨y0, y1, y2, y3⟩
    · refine ⟨_, rfl, s2_self _ _ _ _, fun _ => ?_, h0, by rw [s2_off (by omega), hb _ h0]; exact hs, hg, no, np, ev, ns, ow, pl, ca, ba, L, cnt, sb, hm0, by omega⟩
      rcases (hm0.2.2.2.2.1.1 k hk).2 with w | ⟨-, w⟩
      · exact absurd w y1
      · rw [s2_self, w, eR]
    · obtain ⟨h3, hb3⟩ := hm0.brkM hk y3 (Or.inr ⟨y1, y2⟩)
      refine ⟨_, rfl, by rw [y3.2.1 0 (by decide) (by decide), s2_self], fun _ => ?_, h0, by rw [(hb3 _ (by omega)).1, s2_off (by omega), hb _ h0]; exact hs, hg, no, np, ev, ns, ow, pl, ca, ba, L, cnt, sb, h3, by omega⟩
      rw [(hb3 _ (by omega)).2, s2_self, y2, eR]
