theorem c_Su_init (l : Launch) (D : va_G) (g : GM) (I : MI) (J : MJ) {u : Nat} (u0 : g.1 u = (3, 0)) (hz : g.2.2 = u + 1) : Ct l ySu_init bSu_init 2 none (rmA 3 52 29 11232) D [.ref u] g I J (fun v g2 I2 J2 => v = none ∧ SuAt g2 u ∧ g2.2.2 = u + 30 ∧ oldG u g I J g2 I2 J2) := by
  obtain ⟨sh, r, z⟩ := g
  have hz : z = u + 1 := hz
  subst hz
  have u0 : sh u = (3, 0) := u0
  refine Ct.of (by decide) (ble rfl) [some (.ref u), none] rfl ?_
  intro x C M
  refine v_aload_n C 0 dSu_init_0 rfl rfl ?_
  refine v_objI C w342 (ble rfl) (ble rfl) dSu_init_1 ?_
  refine v_aload_n C 0 dSu_init_4 rfl rfl ?_
  refine v_bipush C 16 dSu_init_5 (by decide) ?_
  refine v_newp C 16 w343 (by decide) (by decide) (by decide) (ble rfl) (ble rfl) dSu_init_7 ?_
  refine v_putr C cfSu (k := 0) (n := 0) (by simp only [g_sh]; (repeat rw [if_neg (by omega)]); assumption) rfl w384 rfl M.2.2.2.2.2 rfl rfl rfl dSu_init_10 ?_
  refine v_aload_n C 0 dSu_init_13 rfl rfl ?_
  refine v_new C cfSp hdSp w345 w26 w2 (ble rfl) (ble rfl) dSu_init_14 ?_
  refine v_dup C dSu_init_17 rfl ?_
  refine v_callN C (host := "LinearHistories") (c_Sp_init (kl x) (kD x) _ _ _ (by (simp only [g_sh]; (repeat (first | rw [if_neg (by omega)] | rw [if_pos (by omega)] | rw [s2_self] | rw [s2_a (by omega)] | rw [s2_k (by omega)])); try (first | rfl | assumption))) rfl) mwSp_init rfl w28 (by decide +kernel) rfl rfl (ble rfl) (ble rfl) (ble rfl) (ble rfl) (ble rfl) dSu_init_18 ?_
  rintro v ⟨sh2, r2, z2⟩ I2 J2 ⟨rfl, hS, hz2, o1, o2, o3⟩
  have hz2 : z2 = u + 11 := hz2
  subst hz2
  have hS : SpAt (sh2, r2, u + 11) (u + 2) := hS
  have u02 : sh2 u = (3, 0) := by
    have h := (o1 u (by show u < u + 1 + 1; omega)).1
    refine Eq.trans h ?_
    (simp only [g_sh]; (repeat (first | rw [if_neg (by omega)] | rw [if_pos (by omega)] | rw [s2_self] | rw [s2_a (by omega)] | rw [s2_k (by omega)])); try (first | rfl | assumption))
  have u12 : sh2 (u + 1) = (13, 16) := by
    have h := (o1 (u + 1) (by show u + 1 < u + 1 + 1; omega)).1
    refine Eq.trans h ?_
    (simp only [g_sh]; (repeat (first | rw [if_neg (by omega)] | rw [if_pos (by omega)] | rw [s2_self] | rw [s2_a (by omega)] | rw [s2_k (by omega)])); try (first | rfl | assumption))
  have r02 : r2 u 0 = some (u + 1) := by
    have h := congrFun (o1 u (by show u < u + 1 + 1; omega)).2 0
    refine Eq.trans h ?_
    (simp only [g_sh]; (repeat (first | rw [if_neg (by omega)] | rw [if_pos (by omega)] | rw [s2_self] | rw [s2_a (by omega)] | rw [s2_k (by omega)])); try (first | rfl | assumption))
  refine v_putr C cfSu (k := 1) (n := 0) (by simp only [g_sh]; (repeat rw [if_neg (by omega)]); assumption) rfl w386 rfl M.2.2.2.2.2 rfl rfl rfl dSu_init_21 ?_
  refine v_aload_n C 0 dSu_init_24 rfl rfl ?_
  refine v_bipush C 16 dSu_init_25 (by decide) ?_
  refine v_newi C 16 (by decide) (by decide) (by decide) (ble rfl) (ble rfl) dSu_init_27 ?_
  refine v_putr C cfSu (k := 2) (n := 0) (by simp only [g_sh]; (repeat rw [if_neg (by omega)]); assumption) rfl w388 rfl M.2.2.2.2.2 rfl rfl rfl dSu_init_29 ?_
  refine v_aload_n C 0 dSu_init_32 rfl rfl ?_
  refine v_bipush C 16 dSu_init_33 (by decide) ?_
  refine v_newi C 16 (by decide) (by decide) (by decide) (ble rfl) (ble rfl) dSu_init_35 ?_
  refine v_putr C cfSu (k := 3) (n := 0) (by simp only [g_sh]; (repeat rw [if_neg (by omega)]); assumption) rfl w389 rfl M.2.2.2.2.2 rfl rfl rfl dSu_init_37 ?_
  refine v_aload_n C 0 dSu_init_40 rfl rfl ?_
  refine v_bipush C 16 dSu_init_41 (by decide) ?_
  refine v_newi C 16 (by decide) (by decide) (by decide) (ble rfl) (ble rfl) dSu_init_43 ?_
  refine v_putr C cfSu (k := 4) (n := 0) (by simp only [g_sh]; (repeat rw [if_neg (by omega)]); assumption) rfl w390 rfl M.2.2.2.2.2 rfl rfl rfl dSu_init_45 ?_
  refine v_iconst C 0 dSu_init_48 (by decide) ?_
  refine v_istore_n C 1 dSu_init_49 rfl (ble rfl) rfl ?_
  have loop : ∀ (m i : Nat) (g : GM) (Ic : MI) (Jc : MJ), i + m = 16 → g.2.2 = u + 14 + i → g.1 u = (3, 0) → g.1 (u + 1) = (13, 16) → SpAt g (u + 2) → g.1 (u + 11) = (10, 16) → g.1 (u + 12) = (10, 16) → g.1 (u + 13) = (10, 16) → g.2.1 u 0 = some (u + 1) → g.2.1 u 1 = some (u + 2) → g.2.1 u 2 = some (u + 11) → g.2.1 u 3 = some (u + 12) → g.2.1 u 4 = some (u + 13) → (∀ j, j < i → g.2.1 (u + 1) j = some (u + 14 + j) ∧ g.1 (u + 14 + j) = (0, 0)) → oldG u (sh, r, u + 1) I J g Ic Jc → V x g (13 + i) (11104 + 8 * i) Ic Jc 50 [some (.ref u), some (.int (nI i))] [] := by
    intro m
    induction m with
    | zero =>
      intro i g Ic Jc h1 a1 a2 a3 a4 a5 a6 a7 a8 a9 a10 a11 a12 a13 a14
      refine v_iload_n C 1 dSu_init_50 rfl rfl ?_
      refine v_bipush C 16 dSu_init_51 (by decide) ?_
      refine v_icmp_ge C 75 dSu_init_53 (by decide) (fun _ => ?_) (fun h => absurd (nI_le (a := 16) (by omega) (by omega)) h)
      exact v_vret C M dSu_init_75 (show 13 + i ≤ 29 by omega) (show 11104 + 8 * i ≤ 11232 by omega) ⟨rfl, ⟨a2, ⟨a3, fun j hj => a13 j (by omega)⟩, a4, a5, a6, a7, a8, a9, a10, a11, a12⟩, by rw [a1]; omega, a14⟩
    | succ m ih =>
      intro i g Ic Jc h1 a1 a2 a3 a4 a5 a6 a7 a8 a9 a10 a11 a12 a13 a14
      obtain ⟨sg, rg, zg⟩ := g
      have a1 : zg = u + 14 + i := a1
      subst a1
      have a2 : sg u = (3, 0) := a2
      have a3 : sg (u + 1) = (13, 16) := a3
      have hii : vp_in (nI i) 16 := vp_in_nI (by omega) (by decide)
      have hic : (nI i).toNatClampNeg = i := nI_clamp (by omega)
      refine v_iload_n C 1 dSu_init_50 rfl rfl ?_
      refine v_bipush C 16 dSu_init_51 (by decide) ?_
      refine v_icmp_ge C 75 dSu_init_53 (by decide) (fun h => absurd h (nI_ge (b := 16) (by omega) (by decide))) (fun _ => ?_)
      refine v_aload_n C 0 dSu_init_56 rfl rfl ?_
      refine v_getr C cfSu (k := 0) (by assumption) rfl (by assumption) w384 dSu_init_57 ?_
      refine v_iload_n C 1 dSu_init_60 rfl rfl ?_
      refine v_new C cfOp hdOp w343 w347 w12 (show 13 + i + 1 ≤ 29 by omega) (show 11104 + 8 * i + 8 ≤ 11232 by omega) dSu_init_61 ?_
      refine v_dup C dSu_init_64 rfl ?_
      refine v_callN C (host := "LinearHistories") (c_Op_init (kl x) (kD x) _ _ _) mwOp_init rfl w349 (by decide +kernel) rfl rfl (ble rfl) (ble rfl) (ble rfl) (show 13 + i + 1 + 0 ≤ 29 by omega) (show 11104 + 8 * i + 8 + 0 ≤ 11232 by omega) dSu_init_65 ?_
      rintro v g3 I3 J3 ⟨rfl, rfl, rfl, rfl⟩
      refine v_past C (a := u + 1) (n := 16) (by (simp only [g_sh]; (repeat (first | rw [if_neg (by omega)] | rw [if_pos (by omega)] | rw [s2_self] | rw [s2_a (by omega)] | rw [s2_k (by omega)])); try (first | rfl | assumption))) hii (by (simp only [g_sh]; (repeat (first | rw [if_neg (by omega)] | rw [if_pos (by omega)] | rw [s2_self] | rw [s2_a (by omega)] | rw [s2_k (by omega)])); try (first | rfl | assumption))) dSu_init_68 ?_
      rw [hic]
      refine v_iinc C (nI (i + 1)) dSu_init_69 rfl (nI_1 i) (ble rfl) rfl ?_
      refine v_goto C 50 dSu_init_72 (by decide) ?_
      refine V.widen (c2 := 13 + (i + 1)) (s3 := 11104 + 8 * (i + 1)) ?_ (show 13 + i + 1 + 0 ≤ _ by omega) (show 11104 + 8 * i + 8 + 0 ≤ _ by omega)
      refine ih (i + 1) _ _ _ (by omega) (by show u + 14 + i + 1 = _; omega) ?_ ?_ ?_ ?_ ?_ ?_ ?_ ?_ ?_ ?_ ?_ (fun j hj => ?_) ⟨fun b hb => ⟨?_, ?_⟩, fun b hb => ?_, fun b hb => ?_⟩
      · (simp only [g_sh]; (repeat (first | rw [if_neg (by omega)] | rw [if_pos (by omega)] | rw [s2_self] | rw [s2_a (by omega)] | rw [s2_k (by omega)])); try (first | rfl | assumption))
      · (simp only [g_sh]; (repeat (first | rw [if_neg (by omega)] | rw [if_pos (by omega)] | rw [s2_self] | rw [s2_a (by omega)] | rw [s2_k (by omega)])); try (first | rfl | assumption))
      · refine a4.mono (fun b b1 b2 => ⟨?_, ?_⟩)
        · (simp only [g_sh]; (repeat (first | rw [if_neg (by omega)] | rw [if_pos (by omega)] | rw [s2_self] | rw [s2_a (by omega)] | rw [s2_k (by omega)])); try (first | rfl | assumption))
        · simp only [g_sh]
          repeat (first | rw [if_neg (by omega)] | rw [s2_off (by omega)])
      · (simp only [g_sh]; (repeat (first | rw [if_neg (by omega)] | rw [if_pos (by omega)] | rw [s2_self] | rw [s2_a (by omega)] | rw [s2_k (by omega)])); try (first | rfl | assumption))
      · (simp only [g_sh]; (repeat (first | rw [if_neg (by omega)] | rw [if_pos (by omega)] | rw [s2_self] | rw [s2_a (by omega)] | rw [s2_k (by omega)])); try (first | rfl | assumption))
      · (simp only [g_sh]; (repeat (first | rw [if_neg (by omega)] | rw [if_pos (by omega)] | rw [s2_self] | rw [s2_a (by omega)] | rw [s2_k (by omega)])); try (first | rfl | assumption))
      · (simp only [g_sh]; (repeat (first | rw [if_neg (by omega)] | rw [if_pos (by omega)] | rw [s2_self] | rw [s2_a (by omega)] | rw [s2_k (by omega)])); try (first | rfl | assumption))
      · (simp only [g_sh]; (repeat (first | rw [if_neg (by omega)] | rw [if_pos (by omega)] | rw [s2_self] | rw [s2_a (by omega)] | rw [s2_k (by omega)])); try (first | rfl | assumption))
      · (simp only [g_sh]; (repeat (first | rw [if_neg (by omega)] | rw [if_pos (by omega)] | rw [s2_self] | rw [s2_a (by omega)] | rw [s2_k (by omega)])); try (first | rfl | assumption))
      · (simp only [g_sh]; (repeat (first | rw [if_neg (by omega)] | rw [if_pos (by omega)] | rw [s2_self] | rw [s2_a (by omega)] | rw [s2_k (by omega)])); try (first | rfl | assumption))
      · (simp only [g_sh]; (repeat (first | rw [if_neg (by omega)] | rw [if_pos (by omega)] | rw [s2_self] | rw [s2_a (by omega)] | rw [s2_k (by omega)])); try (first | rfl | assumption))
      · rcases Nat.lt_succ_iff_lt_or_eq.mp hj with hj | hj
        · have h := a13 j hj
          constructor
          · refine Eq.trans ?_ h.1
            (simp only [g_sh]; (repeat (first | rw [if_neg (by omega)] | rw [if_pos (by omega)] | rw [s2_self] | rw [s2_a (by omega)] | rw [s2_k (by omega)])); try (first | rfl | assumption))
          · refine Eq.trans ?_ h.2
            (simp only [g_sh]; (repeat (first | rw [if_neg (by omega)] | rw [if_pos (by omega)] | rw [s2_self] | rw [s2_a (by omega)] | rw [s2_k (by omega)])); try (first | rfl | assumption))
        · subst hj
          constructor
          · (simp only [g_sh]; (repeat (first | rw [if_neg (by omega)] | rw [if_pos (by omega)] | rw [s2_self] | rw [s2_a (by omega)] | rw [s2_k (by omega)])); try (first | rfl | assumption))
          · (simp only [g_sh]; (repeat (first | rw [if_neg (by omega)] | rw [if_pos (by omega)] | rw [s2_self] | rw [s2_a (by omega)] | rw [s2_k (by omega)])); try (first | rfl | assumption))
      · refine Eq.trans ?_ (a14.1 b hb).1
        (simp only [g_sh]; (repeat (first | rw [if_neg (by omega)] | rw [if_pos (by omega)] | rw [s2_self] | rw [s2_a (by omega)] | rw [s2_k (by omega)])); try (first | rfl | assumption))
      · refine Eq.trans ?_ (a14.1 b hb).2
        simp only [g_sh]
        repeat (first | rw [if_neg (by omega)] | rw [s2_off (by omega)])
      · refine Eq.trans ?_ (a14.2.1 b hb)
        simp only [z_m]
        repeat rw [if_neg (by omega)]
      · refine Eq.trans ?_ (a14.2.2 b hb)
        simp only [z_m]
        repeat rw [if_neg (by omega)]
  refine loop 16 0 _ _ _ (by omega) rfl ?_ ?_ ?_ ?_ ?_ ?_ ?_ ?_ ?_ ?_ ?_ (fun j hj => absurd hj (Nat.not_lt_zero j)) ⟨fun b hb => ⟨?_, ?_⟩, fun b hb => ?_, fun b hb => ?_⟩
  · (simp only [g_sh]; (repeat (first | rw [if_neg (by omega)] | rw [if_pos (by omega)] | rw [s2_self] | rw [s2_a (by omega)] | rw [s2_k (by omega)])); try (first | rfl | assumption))
  · (simp only [g_sh]; (repeat (first | rw [if_neg (by omega)] | rw [if_pos (by omega)] | rw [s2_self] | rw [s2_a (by omega)] | rw [s2_k (by omega)])); try (first | rfl | assumption))
  · refine hS.mono (fun b b1 b2 => ⟨?_, ?_⟩)
    · (simp only [g_sh]; (repeat (first | rw [if_neg (by omega)] | rw [if_pos (by omega)] | rw [s2_self] | rw [s2_a (by omega)] | rw [s2_k (by omega)])); try (first | rfl | assumption))
    · simp only [g_sh]
      repeat (first | rw [if_neg (by omega)] | rw [s2_off (by omega)])
  · (simp only [g_sh]; (repeat (first | rw [if_neg (by omega)] | rw [if_pos (by omega)] | rw [s2_self] | rw [s2_a (by omega)] | rw [s2_k (by omega)])); try (first | rfl | assumption))
  · (simp only [g_sh]; (repeat (first | rw [if_neg (by omega)] | rw [if_pos (by omega)] | rw [s2_self] | rw [s2_a (by omega)] | rw [s2_k (by omega)])); try (first | rfl | assumption))
  · (simp only [g_sh]; (repeat (first | rw [if_neg (by omega)] | rw [if_pos (by omega)] | rw [s2_self] | rw [s2_a (by omega)] | rw [s2_k (by omega)])); try (first | rfl | assumption))
  · (simp only [g_sh]; (repeat (first | rw [if_neg (by omega)] | rw [if_pos (by omega)] | rw [s2_self] | rw [s2_a (by omega)] | rw [s2_k (by omega)])); try (first | rfl | assumption))
  · (simp only [g_sh]; (repeat (first | rw [if_neg (by omega)] | rw [if_pos (by omega)] | rw [s2_self] | rw [s2_a (by omega)] | rw [s2_k (by omega)])); try (first | rfl | assumption))
  · (simp only [g_sh]; (repeat (first | rw [if_neg (by omega)] | rw [if_pos (by omega)] | rw [s2_self] | rw [s2_a (by omega)] | rw [s2_k (by omega)])); try (first | rfl | assumption))
  · (simp only [g_sh]; (repeat (first | rw [if_neg (by omega)] | rw [if_pos (by omega)] | rw [s2_self] | rw [s2_a (by omega)] | rw [s2_k (by omega)])); try (first | rfl | assumption))
  · (simp only [g_sh]; (repeat (first | rw [if_neg (by omega)] | rw [if_pos (by omega)] | rw [s2_self] | rw [s2_a (by omega)] | rw [s2_k (by omega)])); try (first | rfl | assumption))
  · refine Eq.trans ?_ ((o1 b (by show b < u + 1 + 1; omega)).1.trans ?_)
    · (simp only [g_sh]; (repeat (first | rw [if_neg (by omega)] | rw [if_pos (by omega)] | rw [s2_self] | rw [s2_a (by omega)] | rw [s2_k (by omega)])); try (first | rfl | assumption))
    · (simp only [g_sh]; (repeat (first | rw [if_neg (by omega)] | rw [if_pos (by omega)] | rw [s2_self] | rw [s2_a (by omega)] | rw [s2_k (by omega)])); try (first | rfl | assumption))
  · refine Eq.trans ?_ ((o1 b (by show b < u + 1 + 1; omega)).2.trans ?_)
    · simp only [g_sh]
      repeat (first | rw [if_neg (by omega)] | rw [s2_off (by omega)])
    · simp only [g_sh]
      repeat (first | rw [if_neg (by omega)] | rw [s2_off (by omega)])
  · refine Eq.trans ?_ ((o2 b (by show b < u + 1 + 1; omega)).trans ?_)
    · simp only [z_m, g_sh]
      repeat rw [if_neg (by omega)]
    · simp only [z_m, g_sh]
      repeat rw [if_neg (by omega)]
  · refine Eq.trans ?_ ((o3 b (by show b < u + 1 + 1; omega)).trans ?_)
    · simp only [z_m, g_sh]
      repeat rw [if_neg (by omega)]
    · simp only [z_m, g_sh]
      repeat rw [if_neg (by omega)]
/-- LinearHistories: a the object, a+1 subjects, a+2 owners, a+3 places, a+4 earlier, a+5 waiting, a+6 scratch (to a+14), a+15 rowNumbers, a+16 rowResults, a+17 reached -/
def LHAt (g : GM) (a : Nat) : Prop := g.1 a = (5, 0) ∧ g.1 (a + 1) = (14, 6) ∧ g.1 (a + 2) = (10, 48) ∧ g.1 (a + 3) = (10, 48) ∧ g.1 (a + 4) = (11, 48) ∧ g.1 (a + 5) = (10, 8) ∧ SpAt g (a + 6) ∧ g.1 (a + 15) = (10, 48) ∧ g.1 (a + 16) = (10, 48) ∧ g.1 (a + 17) = (10, 6) ∧ g.2.1 a 0 = some (a + 1) ∧ g.2.1 a 1 = some (a + 2) ∧ g.2.1 a 2 = some (a + 3) ∧ g.2.1 a 3 = some (a + 4) ∧ g.2.1 a 4 = some (a + 5) ∧ g.2.1 a 5 = some (a + 6) ∧ g.2.1 a 6 = some (a + 15) ∧ g.2.1 a 7 = some (a + 16) ∧ g.2.1 a 8 = some (a + 17)
theorem c_LH_init (l : Launch) (D : va_G) (g : GM) (I : MI) (J : MJ) {a : Nat} (a0 : g.1 a = (5, 0)) (hz : g.2.2 = a + 1) : Ct l yLH_init bLH_init 1 none (rmA 3 52 17 11300) D [.ref a] g I J (fun v g2 I2 J2 => v = none ∧ LHAt g2 a ∧ (∀ i, g2.2.1 (a + 1) i = none) ∧ g2.2.2 = a + 18 ∧ oldG a g I J g2 I2 J2 ∧ I2 a = I a ∧ J2 a = J a ∧ ∀ j, j < 8 → I2 (a + 5) j = -1) := by
  obtain ⟨sh, r, z⟩ := g
  have hz : z = a + 1 := hz
  subst hz
  have a0 : sh a = (5, 0) := a0
  refine Ct.of (by decide) (ble rfl) [some (.ref a)] rfl ?_
  intro x C M
  refine v_aload_n C 0 dLH_init_0 rfl rfl ?_
  refine v_objI C w20 (ble rfl) (ble rfl) dLH_init_1 ?_
  refine v_aload_n C 0 dLH_init_4 rfl rfl ?_
  refine v_bipush C 6 dLH_init_5 (by decide) ?_
  refine v_newu C 6 w23 (by decide) (by decide) (by decide) (ble rfl) (ble rfl) dLH_init_7 ?_
  refine v_putr C cfLH (k := 0) (n := 0) (by simp only [g_sh]; (repeat rw [if_neg (by omega)]); assumption) rfl w111 rfl M.2.2.2.2.2 rfl rfl rfl dLH_init_10 ?_
  refine v_aload_n C 0 dLH_init_13 rfl rfl ?_
  refine v_bipush C 48 dLH_init_14 (by decide) ?_
  refine v_newi C 48 (by decide) (by decide) (by decide) (ble rfl) (ble rfl) dLH_init_16 ?_
  refine v_putr C cfLH (k := 1) (n := 0) (by simp only [g_sh]; (repeat rw [if_neg (by omega)]); assumption) rfl w112 rfl M.2.2.2.2.2 rfl rfl rfl dLH_init_18 ?_
  refine v_aload_n C 0 dLH_init_21 rfl rfl ?_
  refine v_bipush C 48 dLH_init_22 (by decide) ?_
  refine v_newi C 48 (by decide) (by decide) (by decide) (ble rfl) (ble rfl) dLH_init_24 ?_
  refine v_putr C cfLH (k := 2) (n := 0) (by simp only [g_sh]; (repeat rw [if_neg (by omega)]); assumption) rfl w113 rfl M.2.2.2.2.2 rfl rfl rfl dLH_init_26 ?_
  refine v_aload_n C 0 dLH_init_29 rfl rfl ?_
  refine v_bipush C 48 dLH_init_30 (by decide) ?_
  refine v_newl C 48 (by decide) (by decide) (by decide) (ble rfl) (ble rfl) dLH_init_32 ?_
  refine v_putr C cfLH (k := 3) (n := 0) (by simp only [g_sh]; (repeat rw [if_neg (by omega)]); assumption) rfl w114 rfl M.2.2.2.2.2 rfl rfl rfl dLH_init_34 ?_
  refine v_aload_n C 0 dLH_init_37 rfl rfl ?_
  refine v_bipush C 8 dLH_init_38 (by decide) ?_
  refine v_newi C 8 (by decide) (by decide) (by decide) (ble rfl) (ble rfl) dLH_init_40 ?_
  refine v_putr C cfLH (k := 4) (n := 0) (by simp only [g_sh]; (repeat rw [if_neg (by omega)]); assumption) rfl w115 rfl M.2.2.2.2.2 rfl rfl rfl dLH_init_42 ?_
  refine v_aload_n C 0 dLH_init_45 rfl rfl ?_
  refine v_new C cfSp hdSp w25 w26 w2 (ble rfl) (ble rfl) dLH_init_46 ?_
  refine v_dup C dLH_init_49 rfl ?_
  refine v_callN C (host := "LinearHistories") (c_Sp_init (kl x) (kD x) _ _ _ (by (simp only [g_sh]; (repeat (first | rw [if_neg (by omega)] | rw [if_pos (by omega)] | rw [s2_self] | rw [s2_a (by omega)] | rw [s2_k (by omega)])); try (first | rfl | assumption))) rfl) mwSp_init rfl w28 (by decide +kernel) rfl rfl (ble rfl) (ble rfl) (ble rfl) (ble rfl) (ble rfl) dLH_init_50 ?_
  rintro v ⟨sh2, r2, z2⟩ I2 J2 ⟨rfl, hS, hz2, o1, o2, o3⟩
  have hz2 : z2 = a + 15 := hz2
  subst hz2
  have hS : SpAt (sh2, r2, a + 15) (a + 6) := hS
  have q0 : ∀ b, b < a + 6 → sh2 b = _ := fun b hb => (o1 b hb).1
  have q1 : ∀ b, b < a + 6 → r2 b = _ := fun b hb => (o1 b hb).2
  have e0 : sh2 a = (5, 0) := by
    refine Eq.trans (q0 a (by omega)) ?_
    (simp only [g_sh]; (repeat (first | rw [if_neg (by omega)] | rw [if_pos (by omega)] | rw [s2_self] | rw [s2_a (by omega)] | rw [s2_k (by omega)])); try (first | rfl | assumption))
  have e1 : sh2 (a + 1) = (14, 6) := by
    refine Eq.trans (q0 (a + 1) (by omega)) ?_
    (simp only [g_sh]; (repeat (first | rw [if_neg (by omega)] | rw [if_pos (by omega)] | rw [s2_self] | rw [s2_a (by omega)] | rw [s2_k (by omega)])); try (first | rfl | assumption))
  have e2 : sh2 (a + 2) = (10, 48) := by
    refine Eq.trans (q0 (a + 2) (by omega)) ?_
    (simp only [g_sh]; (repeat (first | rw [if_neg (by omega)] | rw [if_pos (by omega)] | rw [s2_self] | rw [s2_a (by omega)] | rw [s2_k (by omega)])); try (first | rfl | assumption))
  have e3 : sh2 (a + 3) = (10, 48) := by
    refine Eq.trans (q0 (a + 3) (by omega)) ?_
    (simp only [g_sh]; (repeat (first | rw [if_neg (by omega)] | rw [if_pos (by omega)] | rw [s2_self] | rw [s2_a (by omega)] | rw [s2_k (by omega)])); try (first | rfl | assumption))
  have e4 : sh2 (a + 4) = (11, 48) := by
    refine Eq.trans (q0 (a + 4) (by omega)) ?_
    (simp only [g_sh]; (repeat (first | rw [if_neg (by omega)] | rw [if_pos (by omega)] | rw [s2_self] | rw [s2_a (by omega)] | rw [s2_k (by omega)])); try (first | rfl | assumption))
  have e5 : sh2 (a + 5) = (10, 8) := by
    refine Eq.trans (q0 (a + 5) (by omega)) ?_
    (simp only [g_sh]; (repeat (first | rw [if_neg (by omega)] | rw [if_pos (by omega)] | rw [s2_self] | rw [s2_a (by omega)] | rw [s2_k (by omega)])); try (first | rfl | assumption))
  have r0 : r2 a 0 = some (a + 1) := by
    refine Eq.trans (congrFun (q1 a (by omega)) 0) ?_
    (simp only [g_sh]; (repeat (first | rw [if_neg (by omega)] | rw [if_pos (by omega)] | rw [s2_self] | rw [s2_a (by omega)] | rw [s2_k (by omega)])); try (first | rfl | assumption))
  have r1 : r2 a 1 = some (a + 2) := by
    refine Eq.trans (congrFun (q1 a (by omega)) 1) ?_
    (simp only [g_sh]; (repeat (first | rw [if_neg (by omega)] | rw [if_pos (by omega)] | rw [s2_self] | rw [s2_a (by omega)] | rw [s2_k (by omega)])); try (first | rfl | assumption))
  have r3 : r2 a 2 = some (a + 3) := by
    refine Eq.trans (congrFun (q1 a (by omega)) 2) ?_
    (simp only [g_sh]; (repeat (first | rw [if_neg (by omega)] | rw [if_pos (by omega)] | rw [s2_self] | rw [s2_a (by omega)] | rw [s2_k (by omega)])); try (first | rfl | assumption))
  have r4 : r2 a 3 = some (a + 4) := by
    refine Eq.trans (congrFun (q1 a (by omega)) 3) ?_
    (simp only [g_sh]; (repeat (first | rw [if_neg (by omega)] | rw [if_pos (by omega)] | rw [s2_self] | rw [s2_a (by omega)] | rw [s2_k (by omega)])); try (first | rfl | assumption))
  have r5 : r2 a 4 = some (a + 5) := by
    refine Eq.trans (congrFun (q1 a (by omega)) 4) ?_
    (simp only [g_sh]; (repeat (first | rw [if_neg (by omega)] | rw [if_pos (by omega)] | rw [s2_self] | rw [s2_a (by omega)] | rw [s2_k (by omega)])); try (first | rfl | assumption))
  have rn : ∀ i, r2 (a + 1) i = none := fun i => by
    refine Eq.trans (congrFun (q1 (a + 1) (by omega)) i) ?_
    (simp only [g_sh]; (repeat (first | rw [if_neg (by omega)] | rw [if_pos (by omega)] | rw [s2_self] | rw [s2_a (by omega)] | rw [s2_k (by omega)])); try (first | rfl | assumption))
  refine v_putr C cfLH (k := 5) (n := 0) (by simp only [g_sh]; (repeat rw [if_neg (by omega)]); assumption) rfl w116 rfl M.2.2.2.2.2 rfl rfl rfl dLH_init_53 ?_
  refine v_aload_n C 0 dLH_init_56 rfl rfl ?_
  refine v_bipush C 48 dLH_init_57 (by decide) ?_
  refine v_newi C 48 (by decide) (by decide) (by decide) (ble rfl) (ble rfl) dLH_init_59 ?_
  refine v_putr C cfLH (k := 6) (n := 0) (by simp only [g_sh]; (repeat rw [if_neg (by omega)]); assumption) rfl w117 rfl M.2.2.2.2.2 rfl rfl rfl dLH_init_61 ?_
  refine v_aload_n C 0 dLH_init_64 rfl rfl ?_
  refine v_bipush C 48 dLH_init_65 (by decide) ?_
  refine v_newi C 48 (by decide) (by decide) (by decide) (ble rfl) (ble rfl) dLH_init_67 ?_
  refine v_putr C cfLH (k := 7) (n := 0) (by simp only [g_sh]; (repeat rw [if_neg (by omega)]); assumption) rfl w118 rfl M.2.2.2.2.2 rfl rfl rfl dLH_init_69 ?_
  refine v_aload_n C 0 dLH_init_72 rfl rfl ?_
  refine v_bipush C 6 dLH_init_73 (by decide) ?_
  refine v_newi C 6 (by decide) (by decide) (by decide) (ble rfl) (ble rfl) dLH_init_75 ?_
  refine v_putr C cfLH (k := 8) (n := 0) (by simp only [g_sh]; (repeat rw [if_neg (by omega)]); assumption) rfl w119 rfl M.2.2.2.2.2 rfl rfl rfl dLH_init_77 ?_
  refine v_aload_n C 0 dLH_init_80 rfl rfl ?_
  refine v_getr C cfLH (k := 4) (n := 0) (by (simp only [g_sh]; (repeat (first | rw [if_neg (by omega)] | rw [if_pos (by omega)] | rw [s2_self] | rw [s2_a (by omega)] | rw [s2_k (by omega)])); try (first | rfl | assumption))) rfl (b := a + 5) (by (simp only [g_sh]; (repeat (first | rw [if_neg (by omega)] | rw [if_pos (by omega)] | rw [s2_self] | rw [s2_a (by omega)] | rw [s2_k (by omega)])); try (first | rfl | assumption))) w115 dLH_init_81 ?_
  refine v_iconst C (-1) dLH_init_84 (by decide) ?_
  refine v_callS C (c_Ar_fill (kl x) (kD x) _ _ _ (-1) (n := 8) (by (simp only [g_sh]; (repeat (first | rw [if_neg (by omega)] | rw [if_pos (by omega)] | rw [s2_self] | rw [s2_a (by omega)] | rw [s2_k (by omega)])); try (first | rfl | assumption))) (by decide)) mwAr_fill w109 w108 rfl rfl (ble rfl) (ble rfl) (ble rfl) (ble rfl) (ble rfl) dLH_init_85 ?_
  rintro v g3 I3 J3 ⟨rfl, rfl, rfl, f1, f2⟩
  refine v_vret C M dLH_init_88 (ble rfl) (ble rfl) ⟨rfl, ⟨?_, ?_, ?_, ?_, ?_, ?_, ?_, ?_, ?_, ?_, ?_, ?_, ?_, ?_, ?_, ?_, ?_, ?_, ?_⟩, fun i => ?_, rfl, ⟨fun b hb => ⟨?_, ?_⟩, fun b hb => ?_, fun b hb => ?_⟩, ?_, ?_, f2⟩
  · (simp only [g_sh]; (repeat (first | rw [if_neg (by omega)] | rw [if_pos (by omega)] | rw [s2_self] | rw [s2_a (by omega)] | rw [s2_k (by omega)])); try (first | rfl | assumption))
  · (simp only [g_sh]; (repeat (first | rw [if_neg (by omega)] | rw [if_pos (by omega)] | rw [s2_self] | rw [s2_a (by omega)] | rw [s2_k (by omega)])); try (first | rfl | assumption))
  · (simp only [g_sh]; (repeat (first | rw [if_neg (by omega)] | rw [if_pos (by omega)] | rw [s2_self] | rw [s2_a (by omega)] | rw [s2_k (by omega)])); try (first | rfl | assumption))
  · (simp only [g_sh]; (repeat (first | rw [if_neg (by omega)] | rw [if_pos (by omega)] | rw [s2_self] | rw [s2_a (by omega)] | rw [s2_k (by omega)])); try (first | rfl | assumption))
  · (simp only [g_sh]; (repeat (first | rw [if_neg (by omega)] | rw [if_pos (by omega)] | rw [s2_self] | rw [s2_a (by omega)] | rw [s2_k (by omega)])); try (first | rfl | assumption))
  · (simp only [g_sh]; (repeat (first | rw [if_neg (by omega)] | rw [if_pos (by omega)] | rw [s2_self] | rw [s2_a (by omega)] | rw [s2_k (by omega)])); try (first | rfl | assumption))
  · refine hS.mono (fun b b1 b2 => ⟨?_, ?_⟩)
    · (simp only [g_sh]; (repeat (first | rw [if_neg (by omega)] | rw [if_pos (by omega)] | rw [s2_self] | rw [s2_a (by omega)] | rw [s2_k (by omega)])); try (first | rfl | assumption))
    · simp only [g_sh]
      repeat (first | rw [if_neg (by omega)] | rw [s2_off (by omega)])
  · (simp only [g_sh]; (repeat (first | rw [if_neg (by omega)] | rw [if_pos (by omega)] | rw [s2_self] | rw [s2_a (by omega)] | rw [s2_k (by omega)])); try (first | rfl | assumption))
  · (simp only [g_sh]; (repeat (first | rw [if_neg (by omega)] | rw [if_pos (by omega)] | rw [s2_self] | rw [s2_a (by omega)] | rw [s2_k (by omega)])); try (first | rfl | assumption))
  · (simp only [g_sh]; (repeat (first | rw [if_neg (by omega)] | rw [if_pos (by omega)] | rw [s2_self] | rw [s2_a (by omega)] | rw [s2_k (by omega)])); try (first | rfl | assumption))
  · (simp only [g_sh]; (repeat (first | rw [if_neg (by omega)] | rw [if_pos (by omega)] | rw [s2_self] | rw [s2_a (by omega)] | rw [s2_k (by omega)])); try (first | rfl | assumption))
  · (simp only [g_sh]; (repeat (first | rw [if_neg (by omega)] | rw [if_pos (by omega)] | rw [s2_self] | rw [s2_a (by omega)] | rw [s2_k (by omega)])); try (first | rfl | assumption))
  · (simp only [g_sh]; (repeat (first | rw [if_neg (by omega)] | rw [if_pos (by omega)] | rw [s2_self] | rw [s2_a (by omega)] | rw [s2_k (by omega)])); try (first | rfl | assumption))
  · (simp only [g_sh]; (repeat (first | rw [if_neg (by omega)] | rw [if_pos (by omega)] | rw [s2_self] | rw [s2_a (by omega)] | rw [s2_k (by omega)])); try (first | rfl | assumption))
  · (simp only [g_sh]; (repeat (first | rw [if_neg (by omega)] | rw [if_pos (by omega)] | rw [s2_self] | rw [s2_a (by omega)] | rw [s2_k (by omega)])); try (first | rfl | assumption))
  · (simp only [g_sh]; (repeat (first | rw [if_neg (by omega)] | rw [if_pos (by omega)] | rw [s2_self] | rw [s2_a (by omega)] | rw [s2_k (by omega)])); try (first | rfl | assumption))
  · (simp only [g_sh]; (repeat (first | rw [if_neg (by omega)] | rw [if_pos (by omega)] | rw [s2_self] | rw [s2_a (by omega)] | rw [s2_k (by omega)])); try (first | rfl | assumption))
  · (simp only [g_sh]; (repeat (first | rw [if_neg (by omega)] | rw [if_pos (by omega)] | rw [s2_self] | rw [s2_a (by omega)] | rw [s2_k (by omega)])); try (first | rfl | assumption))
  · (simp only [g_sh]; (repeat (first | rw [if_neg (by omega)] | rw [if_pos (by omega)] | rw [s2_self] | rw [s2_a (by omega)] | rw [s2_k (by omega)])); try (first | rfl | assumption))
  · refine Eq.trans ?_ (rn i)
    (simp only [g_sh]; (repeat (first | rw [if_neg (by omega)] | rw [if_pos (by omega)] | rw [s2_self] | rw [s2_a (by omega)] | rw [s2_k (by omega)])); try (first | rfl | assumption))
  · refine Eq.trans ?_ ((q0 b (by omega)).trans ?_)
    · (simp only [g_sh]; (repeat (first | rw [if_neg (by omega)] | rw [if_pos (by omega)] | rw [s2_self] | rw [s2_a (by omega)] | rw [s2_k (by omega)])); try (first | rfl | assumption))
    · (simp only [g_sh]; (repeat (first | rw [if_neg (by omega)] | rw [if_pos (by omega)] | rw [s2_self] | rw [s2_a (by omega)] | rw [s2_k (by omega)])); try (first | rfl | assumption))
  · refine Eq.trans ?_ ((q1 b (by omega)).trans ?_)
    · simp only [g_sh]
      repeat (first | rw [if_neg (by omega)] | rw [s2_off (by omega)])
    · simp only [g_sh]
      repeat (first | rw [if_neg (by omega)] | rw [s2_off (by omega)])
  · refine Eq.trans (f1 b (by omega)) (Eq.trans ?_ ((o2 b (by show b < a + 6; omega)).trans ?_))
    · simp only [z_m, g_sh]
      repeat rw [if_neg (by omega)]
    · simp only [z_m, g_sh]
      repeat rw [if_neg (by omega)]
  · refine Eq.trans ?_ ((o3 b (by show b < a + 6; omega)).trans ?_)
    · simp only [z_m, g_sh]
    · simp only [z_m, g_sh]
      repeat rw [if_neg (by omega)]
  · refine Eq.trans (f1 a (by omega)) (Eq.trans ?_ ((o2 a (by show a < a + 6; omega)).trans ?_))
    · simp only [z_m, g_sh]
      repeat rw [if_neg (by omega)]
    · simp only [z_m, g_sh]
      repeat rw [if_neg (by omega)]
  · refine Eq.trans ?_ ((o3 a (by show a < a + 6; omega)).trans ?_)
    · simp only [z_m, g_sh]
    · simp only [z_m, g_sh]
      repeat rw [if_neg (by omega)]
