theorem badP_7 {p : Int32} (h : badP p) : p < 0 ∨ 7 < p := by
  rcases h with q | q
  · exact Or.inl q
  · right
    have e7 : (7 : Int32) = nI 7 := rfl
    rw [e7]
    exact Int32.lt_of_lt_of_le (nI_lt (a := 7) (b := 8) (by decide) (by decide)) q
theorem codes {kd p : Int32} (h0 : ¬ p < 0) (h1 : p < (if kd = 0 then 5 else 3)) : (p = 0 ∨ p = 1 ∨ p = 2 ∨ kd = 0 ∧ (p = 3 ∨ p = 4)) ∧ ¬ (if kd = 0 then 4 else 2) < p := by
  obtain ⟨c, c1, rfl⟩ := nI_of h0
  by_cases hk : kd = 0
  · rw [if_pos hk] at h1 ⊢
    have h1 : nI c < nI 5 := h1
    rw [nI_ltI c1 (by decide)] at h1
    refine ⟨?_, fun z => ?_⟩
    · have : c = 0 ∨ c = 1 ∨ c = 2 ∨ c = 3 ∨ c = 4 := by omega
      rcases this with rfl | rfl | rfl | rfl | rfl
      · exact Or.inl rfl
      · exact Or.inr (Or.inl rfl)
      · exact Or.inr (Or.inr (Or.inl rfl))
      · exact Or.inr (Or.inr (Or.inr ⟨hk, Or.inl rfl⟩))
      · exact Or.inr (Or.inr (Or.inr ⟨hk, Or.inr rfl⟩))
    · have z : nI 4 < nI c := z
      rw [nI_ltI (by decide) c1] at z
      omega
  · rw [if_neg hk] at h1 ⊢
    have h1 : nI c < nI 3 := h1
    rw [nI_ltI c1 (by decide)] at h1
    refine ⟨?_, fun z => ?_⟩
    · have : c = 0 ∨ c = 1 ∨ c = 2 := by omega
      rcases this with rfl | rfl | rfl
      · exact Or.inl rfl
      · exact Or.inr (Or.inl rfl)
      · exact Or.inr (Or.inr (Or.inl rfl))
    · have z : nI 2 < nI c := z
      rw [nI_ltI (by decide) c1] at z
      omega
theorem codes_bad {kd p : Int32} (h0 : ¬ p < 0) (h1 : (if kd = 0 then 5 else 3) ≤ p) : (if kd = 0 then 4 else 2) < p := by
  obtain ⟨c, c1, rfl⟩ := nI_of h0
  by_cases hk : kd = 0
  · rw [if_pos hk] at h1 ⊢
    have h1 : nI 5 ≤ nI c := h1
    rw [nI_leI (by decide) c1] at h1
    show nI 4 < nI c
    rw [nI_ltI (by decide) c1]
    omega
  · rw [if_neg hk] at h1 ⊢
    have h1 : nI 3 ≤ nI c := h1
    rw [nI_leI (by decide) c1] at h1
    show nI 2 < nI c
    rw [nI_ltI (by decide) c1]
    omega
set_option maxHeartbeats 2000000 in
theorem s_call {s0 len a it : Nat} {scr : Nat → Int32} {g : GM} {I : MI} {J : MJ} (hJ : JX s0 len scr g I J a it) (hit : it < 2 ^ 19) (p0 p1 p2 p3 p4 : Int32) : OutI s0 len scr a it (fun P => ∀ (l : Launch) (D : va_G), CtW l yLa_call bLa_call 8 (some .int) [(0, 16, 19, 13), (0, 16, 23, 19)] rmW D [.ref a, .int p0, .int p1, .int p2, .int p3, .int p4, .ref (a + 45)] g I J P) (fun g2 I2 J2 P => ∀ (l : Launch) (D : va_G), Ct l yMo_call bMo_call 8 (some .int) (rmN 1 21) D [.ref (a + 18), .int p0, .int p1, .int p2, .int p3, .int p4] g2 I2 J2 P) := by
  obtain ⟨h0, hs, hg, no, np, ev, ns, ow, pl, ca, ba, L, cnt, sb, h, hev⟩ := hJ
  have hA := h.1.1
  have a0 := hA.1
  have ho := h.1.2.2.1
  have hC := h.2.2.2.2.2.1
  obtain ⟨-, -, m3, m4, m5, m6, m7, m8⟩ := h.mo
  have thr : ∀ (g2 : GM) (z : Int32), g2.1 = g.1 → JV g2 I J a no np ev ns ow pl ca ba L cnt sb → clT I (a + 18) no p0 p1 p2 = z → z ≠ 0 → ∃ P2, (∀ (l : Launch) (D : va_G), Ct l yMo_call bMo_call 8 (some .int) (rmN 1 21) D [.ref (a + 18), .int p0, .int p1, .int p2, .int p3, .int p4] g2 I J P2) ∧ ∀ v3 g3 I3 J3, P2 v3 g3 I3 J3 → ∃ b, v3 = some (.int b) ∧ I3 (a + 18) 0 = z ∧ (z = 0 → J3 (a + 45) 0 = b.toInt64) ∧ JX s0 len scr g3 I3 J3 a (it + 1) := by
    intro g2 z hg2 h2 hz hz0
    refine ⟨_, fun l D => c_Mo_call l D g2 I J p0 p1 p2 p3 p4 h2.1.2.1 m3 m4 m7 m8 m5, ?_⟩
    rintro v3 g3 I3 J3 ⟨rfl, rfl, w⟩
    rcases w with ⟨-, rfl, rfl⟩ | ⟨w, -⟩
    · rw [hz]
      exact ⟨0, rfl, s2_self _ _ _ _, fun e => absurd e hz0, h0, by rw [s2_off (by omega)]; exact hs, by rw [hg2]; exact hg, no, np, ev, ns, ow, pl, ca, ba, L, cnt, sb, h2.m0 z, by omega⟩
    · rw [hz] at w
      exact absurd w hz0
  have clT1 : clW no p0 p1 p2 → clT I (a + 18) no p0 p1 p2 = 1 := fun q => by unfold clT; rw [if_pos q]
  rcases h.proc p0 with ⟨hb, hi⟩ | ⟨p, hp, rfl, wt⟩
  · refine ⟨_, fun l D => w_call_t1 l D g I J p0 p1 p2 p3 p4 a0 (fun l D => t_LH_call_p l D g I J p0 p1 p2 p3 p4 a0 hb) (fun E g2 I2 J2 q => q.1) (by decide) (by decide) (by decide) (by decide), ?_⟩
    rintro v g2 I2 J2 ⟨rfl, -, q1, q2, q3, rfl, rfl⟩
    have h2 := h.g q1 q2 q3
    obtain ⟨P2, t1, t2⟩ := thr g2 1 q1 h2 (clT1 (by
      rcases badP_7 hb with q | q
      · exact Or.inl q
      · exact Or.inr (Or.inl q))) (by decide)
    exact ⟨1, rfl, hs, by rw [q1]; exact hg, h2.1.2.1.1, by rw [q1]; exact ho, P2, t1, t2⟩
  · by_cases hkn : noOb no p1
    · refine ⟨_, fun l D => w_call_t1 l D g I J (nI p) p1 p2 p3 p4 a0 (fun l D => t_LH_call_k l D g I J p1 p2 p3 p4 a0 hp hC.1 hkn) (fun E g2 I2 J2 q => q.1) (by decide) (by decide) (by decide) (by decide), ?_⟩
      rintro v g2 I2 J2 ⟨rfl, -, q1, q2, q3, rfl, rfl⟩
      have h2 := h.g q1 q2 q3
      obtain ⟨P2, t1, t2⟩ := thr g2 1 q1 h2 (clT1 (Or.inr (Or.inr (Or.inl hkn)))) (by decide)
      exact ⟨1, rfl, hs, by rw [q1]; exact hg, h2.1.2.1.1, by rw [q1]; exact ho, P2, t1, t2⟩
    · obtain ⟨k, hk, rfl⟩ := noOb_k hkn
      have hns := h.2.1
      obtain ⟨s1, s2', s3, s4⟩ := h.1.2.2.2.2.2.1 k (by omega)
      have hO := h.2.2.2.2.2.2.1 k hk
      have ekd : I (a + 18 + 1) k = I (sb k) 5 := hO.2.1.symm
      have hixk : ix (nI k) = k := nI_clamp (by omega)
      have hixp : ix (nI p) = p := nI_clamp (by omega)
      by_cases hcb : p2 < 0 ∨ (if I (sb k) 5 = 0 then 5 else 3) ≤ p2
      · refine ⟨_, fun l D => w_call_t1 l D g I J (nI p) (nI k) p2 p3 p4 a0 (fun l D => t_LH_call_c l D g I J p2 p3 p4 hA hp hC.1 m4 hk s1 s2' hcb) (fun E g2 I2 J2 q => q.1) (by decide) (by decide) (by decide) (by decide), ?_⟩
        rintro v g2 I2 J2 ⟨rfl, -, q1, q2, q3, rfl, rfl⟩
        have h2 := h.g q1 q2 q3
        obtain ⟨P2, t1, t2⟩ := thr g2 1 q1 h2 (by
          by_cases hw : clW no (nI p) (nI k) p2
          · exact clT1 hw
          · unfold clT
            rw [if_neg hw, hixk, ekd, if_pos]
            have hn : ¬ p2 < 0 := fun q => hw (Or.inr (Or.inr (Or.inr q)))
            rcases hcb with q | q
            · exact absurd q hn
            · exact codes_bad hn q) (by decide)
        exact ⟨1, rfl, hs, by rw [q1]; exact hg, h2.1.2.1.1, by rw [q1]; exact ho, P2, t1, t2⟩
      · have hc0 : ¬ p2 < 0 := fun q => hcb (Or.inl q)
        have hc1 : p2 < (if I (sb k) 5 = 0 then 5 else 3) := Int32.not_le.mp (fun q => hcb (Or.inr q))
        obtain ⟨hcode, hcr⟩ := codes hc0 hc1
        have hnw : ¬ clW no (nI p) (nI k) p2 := by
          rintro (q | q | q | q)
          · exact nI_pos (by omega) q
          · have e7 : (7 : Int32) = nI 7 := rfl
            rw [e7, nI_ltI (by decide) (by omega)] at q
            omega
          · exact hkn q
          · exact hc0 q
        rcases wt with ⟨hw, hw2, -⟩ | ⟨x, hx, hw, hw2, -⟩
        · have hclT : clT I (a + 18) no (nI p) (nI k) p2 = 0 := by
            unfold clT
            rw [if_neg hnw, hixk, hixp, ekd, if_neg hcr, hw2, if_neg (by decide)]
          by_cases hf : np = 48 ∨ cnt k = 16
          · refine ⟨_, fun l D => w_call_r l D g I J (nI p) (nI k) p2 p3 p4 a0 (fun l D => c_LH_call_full l D g I J p2 p3 p4 hA hp hw hC.1 m4 hk s1 s2' hc0 hc1 hC.2.1 m8 hO.1.1 hO.1.2.1 hf) (fun v g2 I2 J2 q => ⟨⟨_, q.1⟩, by rw [q.2.1]; exact ho⟩) (by decide) (by decide) (by decide) (by decide), ?_⟩
            rintro v g2 I2 J2 ⟨rfl, z, J1, ⟨hz, rfl, rfl, rfl⟩, rfl⟩
            have ez : z = -1 := by
              injection hz with hz
              injection hz
            subst ez
            have h2 := h.out ((-1 : Int32).toInt64)
            refine ⟨0, rfl, hs, hg, h2.1.2.1.1, ho, _, fun l D => c_Mo_call l D _ _ _ (nI p) (nI k) p2 p3 p4 h2.1.2.1 m3 m4 m7 m8 m5, ?_⟩
            rintro v3 g3 I3 J3 ⟨rfl, rfl, w⟩
            rcases w with ⟨w, -⟩ | ⟨-, pp, kk, x1, x2, x3, x4, w⟩
            · exact absurd hclT w
            · have ekk : kk = k := ((nI_eq (by omega) (by omega)).mp x4).symm
              subst ekk
              rcases w with ⟨-, rfl, rfl⟩ | ⟨w, -⟩
              · exact ⟨-1, rfl, s2_self _ _ _ _, fun _ => s2_self _ _ _ _, h0, by rw [s2_off (by omega)]; exact hs, hg, no, np, ev, ns, ow, pl, ca, ba, L, cnt, sb, h2.m0 0, by omega⟩
              · exfalso
                apply w
                rcases hf with q | q
                · left
                  rw [m7, q]
                  rfl
                · right
                  rw [(m5 kk x2).1, q]
                  rfl
          · have hnp : np < 48 := by omega
            have hcn : cnt k < 16 := by
              have := hO.1.2.1
              omega
            refine ⟨_, fun l D => w_call_r l D g I J (nI p) (nI k) p2 p3 p4 a0 (fun l D => c_LH_call l D g I J p2 p3 p4 hA hp hw hC.1 m4 hk s1 s2' (by omega) hc0 hc1 hC.2.1 hnp hO.1.1 hcn) (fun v g2 I2 J2 q => ⟨⟨_, q.1⟩, by rw [q.2.1]; exact ho⟩) (by decide) (by decide) (by decide) (by decide), ?_⟩
            rintro v g2 I2 J2 ⟨rfl, z, J1, ⟨hz, rfl, rfl, rfl⟩, rfl⟩
            have ez : z = nI np := by
              injection hz with hz
              injection hz
            subst ez
            have cm : ∀ b, b < sb k → b ≠ a → b ≠ a + 2 → b ≠ a + 3 → b ≠ a + 5 → clI I a (sb k) p k (cnt k) np p2 p3 p4 b = I b := fun b b1 b2 b3 b4 b5 => by
              unfold clI
              rw [s2_off b2, s2_off b2, s2_off b2, addI_off (Or.inl b1) hcn, s2_off b5, s2_off b4, s2_off b3]
            have hMo := h.1.2.1
            have em0 : clI I a (sb k) p k (cnt k) np p2 p3 p4 (a + 18) = I (a + 18) := cm _ (by omega) (by omega) (by omega) (by omega) (by omega)
            have em : ∀ c, c < 27 → clI I a (sb k) p k (cnt k) np p2 p3 p4 (a + 18 + c) = I (a + 18 + c) := fun c hc => cm _ (by omega) (by omega) (by omega) (by omega) (by omega)
            refine ⟨0, rfl, by rw [cm _ (by omega) (by omega) (by omega) (by omega) (by omega)]; exact hs, hg, hMo.1, ho, _, fun l D => c_Mo_call l D _ _ _ (nI p) (nI k) p2 p3 p4 hMo (by rw [em0]; exact m3) m4 (by rw [em0]; exact m7) m8 (cnt := cnt) (fun j hj => by rw [em 2 (by decide)]; exact m5 j hj), ?_⟩
            rintro v3 g3 I3 J3 ⟨rfl, rfl, w⟩
            have hclT2 : clT (clI I a (sb k) p k (cnt k) np p2 p3 p4) (a + 18) no (nI p) (nI k) p2 = 0 := by
              unfold clT at hclT ⊢
              rw [em 1 (by decide), em 12 (by decide)]
              exact hclT
            rcases w with ⟨w, -⟩ | ⟨-, pp, kk, x1, x2, x3, x4, w⟩
            · exact absurd hclT2 w
            · have ekk : kk = k := ((nI_eq (by omega) (by omega)).mp x4).symm
              subst ekk
              have epp : pp = p := ((nI_eq (by omega) (by omega)).mp x3).symm
              subst epp
              rw [em0, em 2 (by decide)] at w
              rcases w with ⟨w, -⟩ | ⟨-, q, n, z1, z2, y1, y2, rfl, y4⟩
              · exfalso
                apply hf
                rcases w with q | q
                · left
                  rw [m7] at q
                  exact (nI_eq (b := 48) (by omega) (by decide)).mp q
                · right
                  rw [(m5 kk x2).1] at q
                  exact (nI_eq (b := 16) (by omega) (by decide)).mp q
              · have eq' : q = np := by
                  rw [m7] at y1
                  exact ((nI_eq (by omega) (by omega)).mp y1).symm
                have en : n = cnt kk := by
                  rw [(m5 kk x2).1] at y2
                  exact ((nI_eq (by omega) (by omega)).mp y2).symm
                subst eq'
                subst en
                obtain ⟨r1, r2, r3⟩ := h.called (by omega) hp x2 hnp hcn hcode (z := (nI q).toInt64) y4
                exact ⟨nI q, rfl, r3, fun _ => s2_self _ _ _ _, h0, by rw [r2 _ h0]; exact hs, hg, no, q + 1, ev + 1, ns, _, _, _, _, _, _, sb, r1, by omega⟩
        · have hclT : clT I (a + 18) no (nI p) (nI k) p2 = 2 := by
            unfold clT
            rw [if_neg hnw, hixk, hixp, ekd, if_neg hcr, hw2, if_pos (nI_pos' (by omega))]
          refine ⟨_, fun l D => w_call_t2 l D g I J (nI p) (nI k) p2 p3 p4 a0 (fun l D => t_LH_call_w l D g I J p2 p3 p4 hA hp hC.1 m4 hk s1 s2' hc0 hc1 (by rw [hw]; exact lk_ne (by omega))) (fun E g2 I2 J2 q => q.1) (by decide) (by decide) (by decide) (by decide), ?_⟩
          rintro v g2 I2 J2 ⟨rfl, -, q1, q2, q3, rfl, rfl⟩
          have h2 := h.g q1 q2 q3
          obtain ⟨P2, t1, t2⟩ := thr g2 2 q1 h2 hclT (by decide)
          exact ⟨2, rfl, hs, by rw [q1]; exact hg, h2.1.2.1.1, by rw [q1]; exact ho, P2, t1, t2⟩
