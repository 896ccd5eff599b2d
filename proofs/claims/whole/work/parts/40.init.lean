section VN
variable {x : KX} {cc : ByteArray} {own : String} {nL : Nat} {rm : Room} {g : GM} {cells slots : Nat} {I : MI} {J : MJ} {pc : Nat} {lv : List (Option Value)} {st : List Value} {Post : Option Value → GM → MI → MJ → Prop}
/-- a nest mate's private constructor -/
theorem v_callN (C : Cx x cc own nL rm) {y : MethodName} {cc2 : ByteArray} {nL2 n idx b : Nat} {host : String} {rm2 : Room} {As stk : List Value} (hct : Ct (kl x) y cc2 nL2 none rm2 (kD x) (.ref b :: As) g I J Post) (hm : MW y cc2 nL2 none n) (hy : y.name = "<init>") (hi : Cond.instanceMethod y ∈ TB) (hl : Cond.methodLinkNest own idx y host ∈ knest) (hn : As.length = n) (hst : stk = As.reverse ++ .ref b :: st) (hW : (st.map fun v => v.category).sum ≤ 8) (hf : rm2.frames + 1 ≤ rm.frames) (hlo : 8 + (nL2 + 11) + rm2.locals ≤ rm.locals) (hc2 : cells + rm2.cells ≤ rm.cells) (hs2 : slots + rm2.slots ≤ rm.slots) (d : decode cc pc = .ok (.invokespecial idx, 3))
    (k : ∀ (v : Option Value) (g2 : GM) (I2 : MI) (J2 : MJ), Post v g2 I2 J2 → V x g2 (cells + rm2.cells) (slots + rm2.slots) I2 J2 (pc + 3) lv (v.toList ++ st)) : V x g cells slots I J pc lv stk := fun H locs ls a1 a2 a3 a4 a5 => by
  have hR := C.2.2.2.2.2.2.2.1
  obtain ⟨m1, m2, m3, m4⟩ := id hm
  have hN := C.2.2.2.2.1.2.2.2 _ hl
  refine call_go C (Qa := QP (kD x) (AA g) Post) (As := (Value.ref b :: As).toArray) a1 a3 a4 a5 (va_runIN (Ts := TB) (As := As) (b := b) (host := host) ⟨C.1, C.2.1, C.2.2.2.2.2.1, C.2.2.1, C.2.2.2.1⟩ hct ⟨⟨⟨rfl, rfl, by rw [hR]; exact hf, by rw [hR]; exact hlo, ws_ok C m1, List.mem_cons_self⟩, C.tb m1, C.tb m2, m3, fun sig h => by rw [h] at m4; exact (Option.some.inj m4).symm, va_Nw.use rfl hN⟩, hy, C.tb hi⟩ ⟨PP_blind, PP_at C a1 a2 _⟩ rfl hn (a5.1.trans C.2.2.2.2.2.2.1) hst (by simpa using hW) d ⟨by rw [hR]; exact hc2, by rw [hR]; exact hs2⟩) k
end VN
abbrev rmA (f lo c s : Nat) : Room := { frames := f, cells := c, slots := s, locals := lo }
/-- what stood before b0 stands -/
def oldG (b0 : Nat) (g : GM) (I : MI) (J : MJ) (g2 : GM) (I2 : MI) (J2 : MJ) : Prop := (∀ b, b < b0 → g2.1 b = g.1 b ∧ g2.2.1 b = g.2.1 b) ∧ (∀ b, b < b0 → I2 b = I b) ∧ ∀ b, b < b0 → J2 b = J b
theorem c_Op_init (l : Launch) (D : va_G) (g : GM) (I : MI) (J : MJ) {a : Nat} : Ct l yOp_init bOp_init 1 none (rmN 1 12) D [.ref a] g I J (PF none g I J) := by
  refine Ct.of (by decide) (ble rfl) [some (.ref a)] rfl ?_
  intro x C M
  refine v_aload_n C 0 dOp_init_0 rfl rfl ?_
  refine v_objI C w351 (ble rfl) (ble rfl) dOp_init_1 ?_
  exact v_vret C M dOp_init_4 (ble rfl) (ble rfl) ⟨rfl, rfl, rfl, rfl⟩
theorem c_St_init (l : Launch) (D : va_G) (g : GM) (I : MI) (J : MJ) {a : Nat} : Ct l ySt_init bSt_init 1 none (rmN 1 12) D [.ref a] g I J (PF none g I J) := by
  refine Ct.of (by decide) (ble rfl) [some (.ref a)] rfl ?_
  intro x C M
  refine v_aload_n C 0 dSt_init_0 rfl rfl ?_
  refine v_objI C w64 (ble rfl) (ble rfl) dSt_init_1 ?_
  exact v_vret C M dSt_init_4 (ble rfl) (ble rfl) ⟨rfl, rfl, rfl, rfl⟩
theorem hdOp : ∀ k, k < 8 → defaultValue (tyOp k) = fv (fun _ _ => none) (fun _ _ => 0) (fun _ _ => 0) 0 ((fkL 0).getD k 0) k := by decide +kernel
theorem hdSp : ∀ k, k < 8 → defaultValue (tySp k) = fv (fun _ _ => none) (fun _ _ => 0) (fun _ _ => 0) 0 ((fkL 1).getD k 0) k := by decide +kernel
theorem hdSt : ∀ k, k < 3 → defaultValue (tySt k) = fv (fun _ _ => none) (fun _ _ => 0) (fun _ _ => 0) 0 ((fkL 2).getD k 0) k := by decide +kernel
theorem hdSu : ∀ k, k < 18 → defaultValue (tySu k) = fv (fun _ _ => none) (fun _ _ => 0) (fun _ _ => 0) 0 ((fkL 3).getD k 0) k := by decide +kernel
theorem hdTa : ∀ k, k < 5 → defaultValue (tyTa k) = fv (fun _ _ => none) (fun _ _ => 0) (fun _ _ => 0) 0 ((fkL 4).getD k 0) k := by decide +kernel
theorem hdLH : ∀ k, k < 15 → defaultValue (tyLH k) = fv (fun _ _ => none) (fun _ _ => 0) (fun _ _ => 0) 0 ((fkL 5).getD k 0) k := by decide +kernel
theorem hdMo : ∀ k, k < 35 → defaultValue (tyMo k) = fv (fun _ _ => none) (fun _ _ => 0) (fun _ _ => 0) 0 ((fkL 6).getD k 0) k := by decide +kernel
theorem c_Ta_init (l : Launch) (D : va_G) (g : GM) (I : MI) (J : MJ) {t : Nat} (t0 : g.1 t = (4, 0)) (hz : g.2.2 = t + 1) : Ct l yTa_init bTa_init 1 none (rmA 1 12 4 7024) D [.ref t] g I J (fun v g2 I2 J2 => v = none ∧ TaAt g2 t ∧ g2.2.2 = t + 5 ∧ oldG t g I J g2 I2 J2) := by
  obtain ⟨sh, r, z⟩ := g
  have hz : z = t + 1 := hz
  subst hz
  have t0 : sh t = (4, 0) := t0
  refine Ct.of (by decide) (ble rfl) [some (.ref t)] rfl ?_
  intro x C M
  refine v_aload_n C 0 dTa_init_0 rfl rfl ?_
  refine v_objI C w36 (ble rfl) (ble rfl) dTa_init_1 ?_
  refine v_aload_n C 0 dTa_init_4 rfl rfl ?_
  refine v_sipush C 2000 dTa_init_5 (by decide) ?_
  refine v_newi C 2000 (by decide) (by decide) (by decide) (ble rfl) (ble rfl) dTa_init_8 ?_
  refine v_putr C cfTa (k := 0) (n := 0) (by simp only [g_sh]; (repeat rw [if_neg (by omega)]); assumption) rfl w37 rfl M.2.2.2.2.2 rfl rfl rfl dTa_init_10 ?_
  refine v_aload_n C 0 dTa_init_13 rfl rfl ?_
  refine v_sipush C 2000 dTa_init_14 (by decide) ?_
  refine v_newl C 2000 (by decide) (by decide) (by decide) (ble rfl) (ble rfl) dTa_init_17 ?_
  refine v_putr C cfTa (k := 1) (n := 0) (by simp only [g_sh]; (repeat rw [if_neg (by omega)]); assumption) rfl w39 rfl M.2.2.2.2.2 rfl rfl rfl dTa_init_19 ?_
  refine v_aload_n C 0 dTa_init_22 rfl rfl ?_
  refine v_sipush C 1024 dTa_init_23 (by decide) ?_
  refine v_newi C 1024 (by decide) (by decide) (by decide) (ble rfl) (ble rfl) dTa_init_26 ?_
  refine v_putr C cfTa (k := 2) (n := 0) (by simp only [g_sh]; (repeat rw [if_neg (by omega)]); assumption) rfl w41 rfl M.2.2.2.2.2 rfl rfl rfl dTa_init_28 ?_
  refine v_aload_n C 0 dTa_init_31 rfl rfl ?_
  refine v_sipush C 2000 dTa_init_32 (by decide) ?_
  refine v_newi C 2000 (by decide) (by decide) (by decide) (ble rfl) (ble rfl) dTa_init_35 ?_
  refine v_putr C cfTa (k := 3) (n := 0) (by simp only [g_sh]; (repeat rw [if_neg (by omega)]); assumption) rfl w42 rfl M.2.2.2.2.2 rfl rfl rfl dTa_init_37 ?_
  refine v_vret C M dTa_init_40 (ble rfl) (ble rfl) ⟨rfl, ?_, rfl, fun b hb => ?_, fun b hb => ?_, fun b hb => ?_⟩
  · refine ⟨?_, ?_, ?_, ?_, ?_, ?_, ?_, ?_, ?_⟩ <;> (simp only [g_sh]; (repeat (first | rw [if_neg (by omega)] | rw [if_pos (by omega)] | rw [s2_self] | rw [s2_a (by omega)] | rw [s2_k (by omega)])); try (first | rfl | assumption))
  · constructor
    · simp only [g_sh]
      repeat rw [if_neg (by omega)]
    · simp only [g_sh]
      repeat rw [s2_off (by omega)]
      repeat rw [if_neg (by omega)]
      repeat rw [s2_off (by omega)]
  · simp only [z_m, g_sh]
    repeat rw [if_neg (by omega)]
  · simp only [z_m, g_sh]
    repeat rw [if_neg (by omega)]
/-- the shapes and references from lo to hi are the same -/
def samG (lo hi : Nat) (g g2 : GM) : Prop := ∀ b, lo ≤ b → b < hi → g2.1 b = g.1 b ∧ g2.2.1 b = g.2.1 b
theorem TaAt.mono {g g2 : GM} {t : Nat} (h : TaAt g t) (hs : samG t (t + 5) g g2) : TaAt g2 t := by
  unfold TaAt
  rw [(hs t (by omega) (by omega)).1, (hs t (by omega) (by omega)).2, (hs (t + 1) (by omega) (by omega)).1, (hs (t + 2) (by omega) (by omega)).1, (hs (t + 3) (by omega) (by omega)).1, (hs (t + 4) (by omega) (by omega)).1]
  exact h
theorem samG.sub {lo hi lo2 hi2 : Nat} {g g2 : GM} (h : samG lo hi g g2) (h1 : lo ≤ lo2) (h2 : hi2 ≤ hi) : samG lo2 hi2 g g2 := fun b q1 q2 => h b (by omega) (by omega)
theorem SpAt.mono {g g2 : GM} {s : Nat} (h : SpAt g s) (hs : samG s (s + 9) g g2) : SpAt g2 s := by
  unfold SpAt
  rw [(hs s (by omega) (by omega)).1, (hs s (by omega) (by omega)).2, (hs (s + 6) (by omega) (by omega)).1, (hs (s + 7) (by omega) (by omega)).1, (hs (s + 8) (by omega) (by omega)).1]
  exact ⟨h.1, h.2.1.mono (hs.sub (by omega) (by omega)), h.2.2⟩
theorem OpsAt.mono {g g2 : GM} {ao ob : Nat} (h : OpsAt g ao ob) (h1 : g2.1 ao = g.1 ao ∧ g2.2.1 ao = g.2.1 ao) (h2 : ∀ i, i < 16 → g2.1 (ob + i) = g.1 (ob + i)) : OpsAt g2 ao ob := by
  refine ⟨by rw [h1.1]; exact h.1, fun i hi => ?_⟩
  rw [h1.2, h2 i hi]
  exact h.2 i hi
theorem SuAt.mono {g g2 : GM} {u : Nat} (h : SuAt g u) (hs : samG u (u + 30) g g2) : SuAt g2 u := by
  unfold SuAt
  rw [(hs u (by omega) (by omega)).1, (hs u (by omega) (by omega)).2, (hs (u + 11) (by omega) (by omega)).1, (hs (u + 12) (by omega) (by omega)).1, (hs (u + 13) (by omega) (by omega)).1]
  exact ⟨h.1, h.2.1.mono (hs (u + 1) (by omega) (by omega)) (fun i hi => (hs (u + 14 + i) (by omega) (by omega)).1), h.2.2.1.mono (hs.sub (by omega) (by omega)), h.2.2.2⟩
theorem c_Sp_init (l : Launch) (D : va_G) (g : GM) (I : MI) (J : MJ) {s : Nat} (s0 : g.1 s = (1, 0)) (hz : g.2.2 = s + 1) : Ct l ySp_init bSp_init 1 none (rmA 2 32 8 11032) D [.ref s] g I J (fun v g2 I2 J2 => v = none ∧ SpAt g2 s ∧ g2.2.2 = s + 9 ∧ oldG s g I J g2 I2 J2) := by
  obtain ⟨sh, r, z⟩ := g
  have hz : z = s + 1 := hz
  subst hz
  have s0 : sh s = (1, 0) := s0
  refine Ct.of (by decide) (ble rfl) [some (.ref s)] rfl ?_
  intro x C M
  refine v_aload_n C 0 dSp_init_0 rfl rfl ?_
  refine v_objI C w30 (ble rfl) (ble rfl) dSp_init_1 ?_
  refine v_aload_n C 0 dSp_init_4 rfl rfl ?_
  refine v_new C cfTa hdTa w31 w32 w3 (ble rfl) (ble rfl) dSp_init_5 ?_
  refine v_dup C dSp_init_8 rfl ?_
  refine v_callN C (host := "LinearHistories") (c_Ta_init (kl x) (kD x) _ _ _ (by (simp only [g_sh]; (repeat (first | rw [if_neg (by omega)] | rw [if_pos (by omega)] | rw [s2_self] | rw [s2_a (by omega)] | rw [s2_k (by omega)])); try (first | rfl | assumption))) rfl) mwTa_init rfl w34 (by decide +kernel) rfl rfl (ble rfl) (ble rfl) (ble rfl) (ble rfl) (ble rfl) dSp_init_9 ?_
  rintro v ⟨sh2, r2, z2⟩ I2 J2 ⟨rfl, hT, hz2, o1, o2, o3⟩
  have hz2 : z2 = s + 6 := hz2
  subst hz2
  have s02 : sh2 s = (1, 0) := by
    have h := (o1 s (by show s < s + 1; omega)).1
    refine Eq.trans h ?_
    (simp only [g_sh]; (repeat (first | rw [if_neg (by omega)] | rw [if_pos (by omega)] | rw [s2_self] | rw [s2_a (by omega)] | rw [s2_k (by omega)])); try (first | rfl | assumption))
  refine v_putr C cfSp (k := 0) (n := 0) (by simp only [g_sh]; (repeat rw [if_neg (by omega)]); assumption) rfl w79 rfl M.2.2.2.2.2 rfl rfl rfl dSp_init_12 ?_
  refine v_aload_n C 0 dSp_init_15 rfl rfl ?_
  refine v_new C cfSt hdSt w59 w60 w4 (ble rfl) (ble rfl) dSp_init_16 ?_
  refine v_dup C dSp_init_19 rfl ?_
  refine v_callN C (host := "LinearHistories") (c_St_init (kl x) (kD x) _ _ _) mwSt_init rfl w62 (by decide +kernel) rfl rfl (ble rfl) (ble rfl) (ble rfl) (ble rfl) (ble rfl) dSp_init_20 ?_
  rintro v g3 I3 J3 ⟨rfl, rfl, rfl, rfl⟩
  refine v_putr C cfSp (k := 1) (n := 0) (by simp only [g_sh]; (repeat rw [if_neg (by omega)]); assumption) rfl w81 rfl M.2.2.2.2.2 rfl rfl rfl dSp_init_23 ?_
  refine v_aload_n C 0 dSp_init_26 rfl rfl ?_
  refine v_sipush C 2000 dSp_init_27 (by decide) ?_
  refine v_newl C 2000 (by decide) (by decide) (by decide) (ble rfl) (ble rfl) dSp_init_30 ?_
  refine v_putr C cfSp (k := 2) (n := 0) (by simp only [g_sh]; (repeat rw [if_neg (by omega)]); assumption) rfl w83 rfl M.2.2.2.2.2 rfl rfl rfl dSp_init_32 ?_
  refine v_aload_n C 0 dSp_init_35 rfl rfl ?_
  refine v_sipush C 2000 dSp_init_36 (by decide) ?_
  refine v_newz C 2000 (by decide) (by decide) (by decide) (ble rfl) (ble rfl) dSp_init_39 ?_
  refine v_putr C cfSp (k := 3) (n := 0) (by simp only [g_sh]; (repeat rw [if_neg (by omega)]); assumption) rfl w84 rfl M.2.2.2.2.2 rfl rfl rfl dSp_init_41 ?_
  refine v_vret C M dSp_init_44 (ble rfl) (ble rfl) ⟨rfl, ⟨?_, ?_, ?_, ?_, ?_, ?_, ?_, ?_, ?_⟩, rfl, fun b hb => ?_, fun b hb => ?_, fun b hb => ?_⟩
  · (simp only [g_sh]; (repeat (first | rw [if_neg (by omega)] | rw [if_pos (by omega)] | rw [s2_self] | rw [s2_a (by omega)] | rw [s2_k (by omega)])); try (first | rfl | assumption))
  · refine hT.mono (fun b b1 b2 => ⟨?_, ?_⟩)
    · (simp only [g_sh]; (repeat (first | rw [if_neg (by omega)] | rw [if_pos (by omega)] | rw [s2_self] | rw [s2_a (by omega)] | rw [s2_k (by omega)])); try (first | rfl | assumption))
    · simp only [g_sh]
      repeat (first | rw [if_neg (by omega)] | rw [s2_off (by omega)])
  · (simp only [g_sh]; (repeat (first | rw [if_neg (by omega)] | rw [if_pos (by omega)] | rw [s2_self] | rw [s2_a (by omega)] | rw [s2_k (by omega)])); try (first | rfl | assumption))
  · (simp only [g_sh]; (repeat (first | rw [if_neg (by omega)] | rw [if_pos (by omega)] | rw [s2_self] | rw [s2_a (by omega)] | rw [s2_k (by omega)])); try (first | rfl | assumption))
  · (simp only [g_sh]; (repeat (first | rw [if_neg (by omega)] | rw [if_pos (by omega)] | rw [s2_self] | rw [s2_a (by omega)] | rw [s2_k (by omega)])); try (first | rfl | assumption))
  · (simp only [g_sh]; (repeat (first | rw [if_neg (by omega)] | rw [if_pos (by omega)] | rw [s2_self] | rw [s2_a (by omega)] | rw [s2_k (by omega)])); try (first | rfl | assumption))
  · (simp only [g_sh]; (repeat (first | rw [if_neg (by omega)] | rw [if_pos (by omega)] | rw [s2_self] | rw [s2_a (by omega)] | rw [s2_k (by omega)])); try (first | rfl | assumption))
  · (simp only [g_sh]; (repeat (first | rw [if_neg (by omega)] | rw [if_pos (by omega)] | rw [s2_self] | rw [s2_a (by omega)] | rw [s2_k (by omega)])); try (first | rfl | assumption))
  · (simp only [g_sh]; (repeat (first | rw [if_neg (by omega)] | rw [if_pos (by omega)] | rw [s2_self] | rw [s2_a (by omega)] | rw [s2_k (by omega)])); try (first | rfl | assumption))
  · have h := o1 b (by show b < s + 1; omega)
    constructor
    · refine Eq.trans ?_ (h.1.trans ?_)
      · (simp only [g_sh]; (repeat (first | rw [if_neg (by omega)] | rw [if_pos (by omega)] | rw [s2_self] | rw [s2_a (by omega)] | rw [s2_k (by omega)])); try (first | rfl | assumption))
      · (simp only [g_sh]; (repeat (first | rw [if_neg (by omega)] | rw [if_pos (by omega)] | rw [s2_self] | rw [s2_a (by omega)] | rw [s2_k (by omega)])); try (first | rfl | assumption))
    · refine Eq.trans ?_ (h.2.trans ?_)
      · simp only [g_sh]
        repeat (first | rw [if_neg (by omega)] | rw [s2_off (by omega)])
      · simp only [g_sh]
        repeat (first | rw [if_neg (by omega)] | rw [s2_off (by omega)])
  · refine Eq.trans ?_ ((o2 b (by show b < s + 1; omega)).trans ?_)
    · simp only [z_m, g_sh]
      repeat rw [if_neg (by omega)]
    · simp only [z_m, g_sh]
      repeat rw [if_neg (by omega)]
  · refine Eq.trans ?_ ((o3 b (by show b < s + 1; omega)).trans ?_)
    · simp only [z_m, g_sh]
      repeat rw [if_neg (by omega)]
    · simp only [z_m, g_sh]
      repeat rw [if_neg (by omega)]
