/-! THE LAW'S STEP: object() -/
theorem TaAt.reg {g g2 : GM} {t : Nat} (h : TaAt g t) (hs : ∀ b, t ≤ b → b < t + 5 → g2.1 b = g.1 b ∧ g2.2.1 b = g.2.1 b) : TaAt g2 t := by
  unfold TaAt at h ⊢
  rw [(hs t (by omega) (by omega)).1, (hs (t + 1) (by omega) (by omega)).1, (hs (t + 2) (by omega) (by omega)).1, (hs (t + 3) (by omega) (by omega)).1, (hs (t + 4) (by omega) (by omega)).1, (hs t (by omega) (by omega)).2]
  exact h
theorem SpAt.reg {g g2 : GM} {s : Nat} (h : SpAt g s) (hs : ∀ b, s ≤ b → b < s + 9 → g2.1 b = g.1 b ∧ g2.2.1 b = g.2.1 b) : SpAt g2 s := by
  unfold SpAt at h ⊢
  rw [(hs s (by omega) (by omega)).1, (hs (s + 6) (by omega) (by omega)).1, (hs (s + 7) (by omega) (by omega)).1, (hs (s + 8) (by omega) (by omega)).1, (hs s (by omega) (by omega)).2]
  obtain ⟨a1, a2, a3⟩ := h
  exact ⟨a1, a2.reg (fun b b1 b2 => hs b (by omega) (by omega)), a3⟩
theorem SuAt.reg {g g2 : GM} {u : Nat} (h : SuAt g u) (hs : ∀ b, u ≤ b → b < u + 30 → g2.1 b = g.1 b ∧ g2.2.1 b = g.2.1 b) : SuAt g2 u := by
  unfold SuAt at h ⊢
  rw [(hs u (by omega) (by omega)).1, (hs (u + 11) (by omega) (by omega)).1, (hs (u + 12) (by omega) (by omega)).1, (hs (u + 13) (by omega) (by omega)).1, (hs u (by omega) (by omega)).2]
  obtain ⟨a1, a2, a3, a4⟩ := h
  refine ⟨a1, ?_, a3.reg (fun b b1 b2 => hs b (by omega) (by omega)), a4⟩
  refine ⟨by rw [(hs (u + 1) (by omega) (by omega)).1]; exact a2.1, fun i hi => ?_⟩
  rw [(hs (u + 1) (by omega) (by omega)).2, (hs (u + 14 + i) (by omega) (by omega)).1]
  exact a2.2 i hi
theorem LHAt.reg {g g2 : GM} {a : Nat} (h : LHAt g a) (hs : ∀ b, a ≤ b → b < a + 18 → g2.1 b = g.1 b) (hr : ∀ b, a ≤ b → b < a + 18 → b ≠ a + 1 → g2.2.1 b = g.2.1 b) : LHAt g2 a := by
  unfold LHAt at h ⊢
  rw [hs a (by omega) (by omega), hs (a + 1) (by omega) (by omega), hs (a + 2) (by omega) (by omega), hs (a + 3) (by omega) (by omega), hs (a + 4) (by omega) (by omega), hs (a + 5) (by omega) (by omega), hs (a + 15) (by omega) (by omega), hs (a + 16) (by omega) (by omega), hs (a + 17) (by omega) (by omega), hr a (by omega) (by omega) (by omega)]
  obtain ⟨a1, a2, a3, a4, a5, a6, a7, a8⟩ := h
  exact ⟨a1, a2, a3, a4, a5, a6, a7.reg (fun b b1 b2 => ⟨hs b (by omega) (by omega), hr b (by omega) (by omega) (by omega)⟩), a8⟩
theorem MoAt.reg {g g2 : GM} {m : Nat} (h : MoAt g m) (hs : ∀ b, m ≤ b → b < m + 27 → g2.1 b = g.1 b) (hr : g2.2.1 m = g.2.1 m) : MoAt g2 m := by
  unfold MoAt at h ⊢
  rw [hs m (by omega) (by omega), hs (m + 1) (by omega) (by omega), hs (m + 2) (by omega) (by omega), hs (m + 3) (by omega) (by omega), hs (m + 4) (by omega) (by omega), hs (m + 5) (by omega) (by omega), hs (m + 6) (by omega) (by omega), hs (m + 7) (by omega) (by omega), hs (m + 8) (by omega) (by omega), hs (m + 9) (by omega) (by omega), hs (m + 10) (by omega) (by omega), hs (m + 11) (by omega) (by omega), hs (m + 12) (by omega) (by omega), hs (m + 13) (by omega) (by omega), hs (m + 14) (by omega) (by omega), hs (m + 15) (by omega) (by omega), hs (m + 16) (by omega) (by omega), hs (m + 17) (by omega) (by omega), hs (m + 18) (by omega) (by omega), hs (m + 19) (by omega) (by omega), hs (m + 20) (by omega) (by omega), hs (m + 21) (by omega) (by omega), hs (m + 22) (by omega) (by omega), hs (m + 23) (by omega) (by omega), hs (m + 24) (by omega) (by omega), hs (m + 25) (by omega) (by omega), hs (m + 26) (by omega) (by omega), hr]
  exact h
theorem OH_0 {E R : Nat → Nat → Int32} {N : Nat → Nat} {kind : Int32} {e : Nat} {c b : Nat → Nat} : OH E R N kind 0 0 0 e c b := ⟨Nat.le_refl _, by decide, fun i hi => by omega, ⟨0, rfl, by decide, fun i _ => by
  rw [Nat.zero_testBit]
  constructor
  · intro z; cases z
  · rintro ⟨z, -⟩; omega⟩, fun i hi => by omega, fun i hi => by omega, fun i _ hi => by omega, fun i hi => by omega, fun i hi => by omega, fun i hi => by omega, fun i j hi => by omega⟩
/-- an object more -/
theorem JV.begun {g g2 : GM} {I I1 I3 : MI} {J J1 : MJ} {a no np ev ns ns' : Nat} {ow pl ca ba L cnt sb sb' : Nat → Nat} (h : JV g I J a no np ev ns ow pl ca ba L cnt sb) (hev : ev < 2 ^ 20) (hno : no < 6) {kind : Int32} {z : Int64} (hS : ST g2 a ns' sb') (hns' : no < ns') (hsb : ∀ k, k < no → sb' k = sb k) (c1 : ∀ b, b < a + 46 → b ≠ a → I1 b = I b) (c1J : ∀ b, b < a + 46 → J1 b = J b) (c2 : ∀ q, q ≠ 10 → q ≠ 11 → I1 a q = I a q) (c210 : I1 a 10 = 0) (c211 : I1 a 11 = nI (no + 1)) (c3 : ∀ k, k < no → ∀ b, sb k ≤ b → b < sb k + 30 → I1 b = I b ∧ J1 b = J b) (c4 : I1 (sb' no) 5 = kind ∧ I1 (sb' no) 6 = 0 ∧ I1 (sb' no) 7 = 0 ∧ I1 (sb' no) 8 = 0 ∧ I1 (sb' no) 16 = 0 ∧ I1 (sb' no) 17 = -1 ∧ I1 (sb' no) 9 = 0 ∧ I1 (sb' no) 14 = 0) (hM : chM (a + 18) (s2 (s2 (s2 (s2 I1 (a + 18) 0 0) (a + 18 + 1) no kind) (a + 18 + 2) no 0) (a + 18) 1 (nI (no + 1))) I3) : JV g2 I3 (s2 J1 (a + 45) 0 z) a (no + 1) np ev ns' ow pl ca ba L (upF cnt no 0) sb' ∧ (∀ b, b < a → I3 b = I b) ∧ I3 (a + 18) 0 = 0 := by
  have hH := h.2.2.1
  have hRM := h.2.2.2.1
  have hC := h.2.2.2.2.2.1
  have hns := h.2.1
  obtain ⟨m1, m2, m3, m4, m5, m6, m7, m8⟩ := h.mo
  obtain ⟨w3, w4, w5, w6⟩ := hM
  have two : ∀ (f : MI) (b z : Nat) (v : Int32) (y : Nat), s2 f b z v b y = if y = z then v else f b y := fun f b z v y => by
    by_cases c : y = z
    · rw [c, s2_self, if_pos rfl]
    · rw [s2_k c, if_neg c]
  have bm : ∀ c, c < 27 → I1 (a + 18 + c) = I (a + 18 + c) := fun c hc => c1 _ (by omega) (by omega)
  have bm0 : I1 (a + 18) = I (a + 18) := bm 0 (by decide)
  have eI : ∀ b, b ≠ a + 18 → b ≠ a + 18 + 1 → b ≠ a + 18 + 2 → b ≠ a + 18 + 17 → b ≠ a + 18 + 23 → I3 b = I1 b := fun b b1 b2 b3 b4 b5 => by rw [w6 b b1 b4 b5, s2_off b1, s2_off b3, s2_off b2, s2_off b1]
  have em : ∀ q, q ≠ 30 → q ≠ 0 → q ≠ 1 → I3 (a + 18) q = I (a + 18) q := fun q x1 x2 x3 => by rw [w5 q x1, s2_k x3, s2_a (by omega), s2_a (by omega), s2_k x2, bm0]
  have e1 : ∀ y, I3 (a + 18 + 1) y = if y = no then kind else I (a + 18 + 1) y := fun y => by rw [w6 _ (by omega) (by omega) (by omega), s2_a (by omega), s2_a (by omega), two, s2_a (by omega), bm 1 (by decide)]
  have e2 : ∀ y, I3 (a + 18 + 2) y = if y = no then 0 else I (a + 18 + 2) y := fun y => by rw [w6 _ (by omega) (by omega) (by omega), s2_a (by omega), two, s2_a (by omega), s2_a (by omega), bm 2 (by decide)]
  have ecl : ∀ c, 3 ≤ c → c ≤ 12 → I3 (a + 18 + c) = I (a + 18 + c) := fun c x1 x2 => by rw [eI _ (by omega) (by omega) (by omega) (by omega) (by omega)]; exact bm c (by omega)
  have ea : I3 a = I1 a := eI a (by omega) (by omega) (by omega) (by omega) (by omega)
  have hH' := hH.object hno
  have hRM' : RM I3 (a + 18) (no + 1) np ev ow ca ba L (upF cnt no 0) := by
    refine ⟨by rw [w5 1 (by decide), s2_self], by rw [em 5 (by decide) (by decide) (by decide)]; exact m7, by rw [em 15 (by decide) (by decide) (by decide)]; exact m6, fun q hq => by rw [ecl 3 (by decide) (by decide)]; exact m2 q hq, fun k hk => ?_, fun y hy => by rw [ecl 5 (by decide) (by decide), ecl 10 (by decide) (by decide), ecl 11 (by decide) (by decide)]; exact hRM.2.2.2.2.2 y hy⟩
    rw [e2]
    by_cases c : k = no
    · rw [if_pos c, c, upF_self]
      rfl
    · rw [if_neg c, upF_ne _ _ _ c]
      exact (m5 k (by omega)).1
  have j0 : ∀ b, b ≠ a + 45 → s2 J1 (a + 45) 0 z b = J1 b := fun b hb => s2_off hb
  refine ⟨⟨hS, hns', hH', hRM', RC.new (fun k hk => ⟨hRM'.2.2.2.2.1 k hk, hH'.2.2.1 k hk⟩) (by omega) w3 w4, ⟨by rw [ea]; exact c211, by rw [ea, c2 12 (by decide) (by decide)]; exact hC.2.1, by rw [ea, c2 13 (by decide) (by decide)]; exact hC.2.2.1, by rw [j0 a (by omega), c1J a (by omega)]; exact hC.2.2.2.1, fun x hx => ?_, fun q hq => ?_⟩, fun k hk => ?_, Or.inl (by rw [ea]; exact c210)⟩, fun b hb => by rw [eI b (by omega) (by omega) (by omega) (by omega) (by omega)]; exact c1 b (by omega) (by omega), by rw [w5 0 (by decide), s2_k (by decide), s2_a (by omega), s2_a (by omega), s2_self]⟩
  · rw [eI (a + 2) (by omega) (by omega) (by omega) (by omega) (by omega), eI (a + 3) (by omega) (by omega) (by omega) (by omega) (by omega), c1 (a + 2) (by omega) (by omega), c1 (a + 3) (by omega) (by omega), j0 (a + 4) (by omega), c1J (a + 4) (by omega)]
    exact hC.2.2.2.2.1 x hx
  · rw [eI (a + 5) (by omega) (by omega) (by omega) (by omega) (by omega), c1 (a + 5) (by omega) (by omega), ecl 12 (by decide) (by decide), ecl 4 (by decide) (by decide)]
    exact hC.2.2.2.2.2 q hq
  · by_cases c : k = no
    · subst c
      rw [upF_self]
      have hlo := hS.lo hns'
      have su : I3 (sb' k) = I1 (sb' k) := eI _ (by omega) (by omega) (by omega) (by omega) (by omega)
      obtain ⟨y5, y6, y7, y8, y16, y17, y9, y14⟩ := c4
      refine ⟨⟨by rw [su, y6]; rfl, by decide, Or.inl (by rw [su]; exact y9), fun q => ?_⟩, by rw [su, y5, e1, if_pos rfl], by rw [su, y8]; exact OH_0, Or.inl (by rw [su]; exact y14), 0, 0, fun _ => 0, fun _ => 0, by rw [su, y7]; rfl, by decide, by rw [su, y16]; rfl, by decide, fun i hi => by omega, fun i j _ hj => by omega, fun j hj => by omega, Or.inl ⟨by rw [su]; exact y17, fun i hi => by omega⟩⟩
      rw [su, y9] at q
      exact absurd q (by decide)
    · have hk' : k < no := by omega
      have odN := fun {E : Nat → Nat → Int32} {kind ret : Int32} {n e : Nat} => HRM_od hH' hRM' hev hk (E := E) (kind := kind) (ret := ret) (n := n) (e := e)
      rw [upF_ne _ _ _ c] at odN ⊢
      rw [hsb k hk']
      have hlo := h.1.lo (show k < ns by omega)
      refine (h.2.2.2.2.2.2.1 k hk').other (fun b b1 b2 => ⟨by rw [eI b (by omega) (by omega) (by omega) (by omega) (by omega)]; exact (c3 k hk' b b1 b2).1, by rw [j0 b (by omega)]; exact (c3 k hk' b b1 b2).2⟩) (by rw [e1, if_neg c]) (fun i f hi f1 f2 => ?_) (fun _ _ => ⟨rfl, rfl⟩) (fun _ _ => rfl) (fun i hi => ?_) (Nat.le_refl _) (by omega) (HRM_od hH hRM hev hk') odN
      · show I3 _ _ = I _ _
        rw [ecl f (by omega) (by omega)]
      · have := hH.2.2.2.2.2.2.2.1 _ (hH.2.2.2.2.1 k hk' i hi).1
        show ba (L (16 * k + i)) ≤ ev
        omega
theorem begI_u {I : MI} {u : Nat} {kind : Int32} : begI I u kind u 5 = kind ∧ begI I u kind u 6 = 0 ∧ begI I u kind u 7 = 0 ∧ begI I u kind u 8 = 0 ∧ begI I u kind u 16 = 0 ∧ begI I u kind u 17 = -1 ∧ begI I u kind u 9 = 0 ∧ begI I u kind u 14 = 0 := by
  unfold begI
  refine ⟨?_, ?_, ?_, ?_, ?_, ?_, ?_, s2_self _ _ _ _⟩
  · rw [s2_k (by decide), s2_k (by decide), s2_k (by decide), s2_k (by decide), s2_k (by decide), s2_k (by decide), s2_k (by decide), s2_self]
  · rw [s2_k (by decide), s2_k (by decide), s2_k (by decide), s2_k (by decide), s2_k (by decide), s2_k (by decide), s2_self]
  · rw [s2_k (by decide), s2_k (by decide), s2_k (by decide), s2_k (by decide), s2_k (by decide), s2_self]
  · rw [s2_k (by decide), s2_k (by decide), s2_k (by decide), s2_k (by decide), s2_self]
  · rw [s2_k (by decide), s2_k (by decide), s2_k (by decide), s2_self]
  · rw [s2_k (by decide), s2_k (by decide), s2_self]
  · rw [s2_k (by decide), s2_self]
theorem begI_off {I : MI} {u b : Nat} {kind : Int32} (h : b ≠ u) : begI I u kind b = I b := by
  unfold begI
  rw [s2_off h, s2_off h, s2_off h, s2_off h, s2_off h, s2_off h, s2_off h, s2_off h]
set_option maxHeartbeats 2000000 in
theorem s_object {s0 len a it : Nat} {scr : Nat → Int32} {g : GM} {I : MI} {J : MJ} (hJ : JX s0 len scr g I J a it) (hit : it < 2 ^ 19) (p0 : Int32) : OutI s0 len scr a it (fun P => ∀ (l : Launch) (D : va_G), CtW l yLa_object bLa_object 4 (some .int) [(0, 9, 12, 13)] rmW D [.ref a, .int p0, .ref (a + 45)] g I J P) (fun g2 I2 J2 P => ∀ (l : Launch) (D : va_G), Ct l yMo_object bMo_object 2 (some .int) (rmN 1 21) D [.ref (a + 18), .int p0] g2 I2 J2 P) := by
  obtain ⟨h0, hs, hg, no, np, ev, ns, ow, pl, ca, ba, L, cnt, sb, h, hev⟩ := hJ
  have hA := h.1.1
  have a0 := hA.1
  have ho := h.1.2.2.1
  have hC := h.2.2.2.2.2.1
  have hns := h.2.1
  have hns6 := h.1.2.2.2.2.1
  obtain ⟨m1, m2, m3, m4, m5, m6, m7, m8⟩ := h.mo
  by_cases hb : p0 < 0 ∨ 5 < p0
  · refine ⟨_, fun l D => w_object_t1 l D g I J p0 a0 (fun l D => t_LH_object l D g I J p0 hb) (fun E g2 I2 J2 q => q.1) (by decide) (by decide) (by decide) (by decide), ?_⟩
    rintro v g2 I2 J2 ⟨rfl, -, q1, q2, q3, rfl, rfl⟩
    have h2 := h.g q1 q2 q3
    refine ⟨1, rfl, hs, by rw [q1]; exact hg, h2.1.2.1.1, by rw [q1]; exact ho, _, fun l D => c_Mo_object_bad l D g2 _ _ p0 h2.1.2.1 hb, ?_⟩
    rintro v3 g3 I3 J3 ⟨rfl, rfl, rfl, rfl⟩
    exact ⟨0, rfl, s2_self _ _ _ _, fun e => absurd e (by decide), h0, by rw [s2_off (by omega)]; exact hs, by rw [q1]; exact hg, no, np, ev, ns, ow, pl, ca, ba, L, cnt, sb, h2.m0 1, by omega⟩
  · have hk0 : ¬ p0 < 0 := fun q => hb (Or.inl q)
    have hk5 : p0 ≤ 5 := Int32.not_lt.mp (fun q => hb (Or.inr q))
    by_cases h6 : no = 6
    · refine ⟨_, fun l D => w_object_r l D g I J p0 a0 (fun l D => c_LH_object_full l D g I J p0 hA hk0 hk5 (by rw [hC.1, h6]; rfl)) (fun v g2 I2 J2 q => ⟨⟨_, q.1⟩, by rw [q.2.1]; exact ho⟩) (by decide) (by decide) (by decide) (by decide), ?_⟩
      rintro v g2 I2 J2 ⟨rfl, z, J1, ⟨hz, rfl, rfl, rfl⟩, rfl⟩
      have ez : z = -1 := by
        injection hz with hz
        injection hz
      subst ez
      have h2 := h.out ((-1 : Int32).toInt64)
      refine ⟨0, rfl, hs, hg, m1.1, ho, _, fun l D => c_Mo_object_full l D _ _ _ p0 m1 hk0 hk5 (by rw [m3, h6]; rfl), ?_⟩
      rintro v3 g3 I3 J3 ⟨rfl, rfl, rfl, rfl⟩
      exact ⟨-1, rfl, s2_self _ _ _ _, fun _ => s2_self _ _ _ _, h0, by rw [s2_off (by omega)]; exact hs, hg, no, np, ev, ns, ow, pl, ca, ba, L, cnt, sb, h2.m0 0, by omega⟩
    · have hno : no < 6 := by omega
      by_cases hold : no < ns
      · obtain ⟨s1, s2', s3, s4⟩ := h.1.2.2.2.2.2.1 no hold
        refine ⟨_, fun l D => w_object_r l D g I J p0 a0 (fun l D => c_LH_object_old l D g I J p0 hA hk0 hk5 hC.1 hno s1 s2'.1 (by omega)) (fun v g2 I2 J2 q => ⟨⟨_, q.1⟩, by rw [q.2.1]; exact ho⟩) (by decide) (by decide) (by decide) (by decide), ?_⟩
        rintro v g2 I2 J2 ⟨rfl, z, J1, ⟨hz, rfl, rfl, rfl⟩, rfl⟩
        have ez : z = nI no := by
          injection hz with hz
          injection hz
        subst ez
        have ob : ∀ b, b ≠ a → b ≠ sb no → s2 (s2 (begI I (sb no) p0) a 10 0) a 11 (nI (no + 1)) b = I b := fun b b1 b2 => by rw [s2_off b1, s2_off b1, begI_off b2]
        have hu := begI_u (I := I) (u := sb no) (kind := p0)
        have eu : s2 (s2 (begI I (sb no) p0) a 10 0) a 11 (nI (no + 1)) (sb no) = begI I (sb no) p0 (sb no) := by rw [s2_off (by omega), s2_off (by omega)]
        refine ⟨0, rfl, by rw [ob _ (by omega) (by omega)]; exact hs, hg, m1.1, ho, _, fun l D => c_Mo_object l D _ _ _ p0 m1 hk0 hk5 (by rw [ob _ (by omega) (by omega)]; exact m3) hno, ?_⟩
        rintro v3 g3 I3 J3 ⟨rfl, rfl, rfl, hM⟩
        obtain ⟨r1, r2, r3⟩ := h.begun (by omega) hno (z := (nI no).toInt64) h.1 hold (fun _ _ => rfl) (fun b b1 b2 => ob b b2 (by omega)) (fun _ _ => rfl) (fun q q1 q2 => by rw [s2_k q2, s2_k q1, begI_off (by omega)]) (by rw [s2_k (by decide), s2_self]) (s2_self _ _ _ _) (fun k hk b b1 b2 => ⟨ob b (by have := h.1.lo (show k < ns by omega); omega) (by have := h.1.dis (show k < ns by omega) hold (by omega); omega), rfl⟩) (by rw [eu]; exact hu) hM
        exact ⟨nI no, rfl, r3, fun _ => s2_self _ _ _ _, h0, by rw [r2 _ h0]; exact hs, hg, no + 1, np, ev, ns, ow, pl, ca, ba, L, _, sb, r1, by omega⟩
      · have hnn : no = ns := by omega
        obtain ⟨t1, t2, t3, t4, t5, t6, t7, t8⟩ := h.1
        refine ⟨_, fun l D => w_object_r l D g I J p0 a0 (fun l D => c_LH_object_new l D g I J (u := g.2.2) p0 hA hk0 hk5 hC.1 hno (t8 no (by omega) hno) rfl (by omega)) (fun v g2 I2 J2 q => ?_) (by decide) (by decide) (by decide) (by decide), ?_⟩
        · obtain ⟨q1, I1, q2, q3, q4, -⟩ := q
          exact ⟨⟨_, q1⟩, by rw [q4 _ (by omega)]; exact ho⟩
        rintro v g2 I2 J2 ⟨rfl, z, J1, ⟨hz, I1, q2, q3, q4, q5, q6, q7, q8, q9, rfl⟩, rfl⟩
        have ez : z = nI no := by
          injection hz with hz
          injection hz
        subst ez
        have ob : ∀ b, b ≠ a → b < g.2.2 → s2 (s2 (begI I1 g.2.2 p0) a 10 0) a 11 (nI (no + 1)) b = I b := fun b b1 b2 => by rw [s2_off b1, s2_off b1, begI_off (by omega)]; exact q8 b b2
        have hu := begI_u (I := I1) (u := g.2.2) (kind := p0)
        have eu : s2 (s2 (begI I1 g.2.2 p0) a 10 0) a 11 (nI (no + 1)) g.2.2 = begI I1 g.2.2 p0 g.2.2 := by rw [s2_off (by omega), s2_off (by omega)]
        have hMo2 : MoAt g2 (a + 18) := m1.reg (fun b b1 b2 => q4 b (by omega)) (q5 _ (by omega) (by omega))
        have hST2 : ST g2 a (ns + 1) (upF sb no g.2.2) := by
          refine ⟨t1.reg (fun b b1 b2 => q4 b (by omega)) (fun b b1 b2 b3 => q5 b (by omega) b3), hMo2, by rw [q4 _ (by omega)]; exact t3, by omega, by omega, fun k hk => ?_, fun k j hkj hj => ?_, fun k k1 k2 => ?_⟩
          · by_cases c : k = no
            · rw [c, upF_self]
              exact ⟨q6, q2, by omega, by omega⟩
            · rw [upF_ne _ _ _ c]
              obtain ⟨x1, x2, x3, x4⟩ := t6 k (by omega)
              exact ⟨by rw [q7 k c]; exact x1, x2.reg (fun b b1 b2 => ⟨q4 b (by omega), q5 b (by omega) (by omega)⟩), x3, by omega⟩
          · have ck : k ≠ no := by omega
            rw [upF_ne _ _ _ ck]
            by_cases c : j = no
            · rw [c, upF_self]
              exact (t6 k (by omega)).2.2.2
            · rw [upF_ne _ _ _ c]
              exact t7 k j hkj (by omega)
          · rw [q7 k (by omega)]
            exact t8 k (by omega) k2
        refine ⟨0, rfl, by rw [ob _ (by omega) (by omega)]; exact hs, by rw [q4 _ (by omega)]; exact hg, hMo2.1, by rw [q4 _ (by omega)]; exact ho, _, fun l D => c_Mo_object l D _ _ _ p0 hMo2 hk0 hk5 (by rw [ob _ (by omega) (by omega)]; exact m3) hno, ?_⟩
        rintro v3 g3 I3 J3 ⟨rfl, rfl, rfl, hM⟩
        obtain ⟨r1, r2, r3⟩ := h.begun (by omega) hno (z := (nI no).toInt64) hST2 (by omega) (fun k hk => upF_ne _ _ _ (by omega)) (fun b b1 b2 => ob b b2 (by omega)) (fun b b1 => q9 b (by omega)) (fun q x1 x2 => by rw [s2_k x2, s2_k x1, begI_off (by omega), q8 a (by omega)]) (by rw [s2_k (by decide), s2_self]) (s2_self _ _ _ _) (fun k hk b b1 b2 => by
          have x4 := (t6 k (by omega)).2.2.2
          have x3 := (t6 k (by omega)).2.2.1
          exact ⟨ob b (by omega) (by omega), q9 b (by omega)⟩) (by rw [upF_self, eu]; exact hu) hM
        exact ⟨nI no, rfl, r3, fun _ => s2_self _ _ _ _, h0, by rw [r2 _ h0]; exact hs, by rw [q4 _ (by omega)]; exact hg, no + 1, np, ev, ns + 1, ow, pl, ca, ba, L, _, _, r1, by omega⟩
