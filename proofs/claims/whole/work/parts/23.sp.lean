/-! Space: s the object, s+1 its table (to s+5), s+6 its state, s+7 ways, s+8 hopeful. Subject: u the object, u+1 the operations' row, u+2 its space (to u+10), u+11 backEvents, u+12 backCounts, u+13 backSets, u+14 .. u+29 the operations -/
def SpAt (g : GM) (s : Nat) : Prop := g.1 s = (1, 0) ∧ TaAt g (s + 1) ∧ g.1 (s + 6) = (2, 0) ∧ g.1 (s + 7) = (11, 2000) ∧ g.1 (s + 8) = (12, 2000) ∧ g.2.1 s 0 = some (s + 1) ∧ g.2.1 s 1 = some (s + 6) ∧ g.2.1 s 2 = some (s + 7) ∧ g.2.1 s 3 = some (s + 8)
def SuAt (g : GM) (u : Nat) : Prop := g.1 u = (3, 0) ∧ OpsAt g (u + 1) (u + 14) ∧ SpAt g (u + 2) ∧ g.1 (u + 11) = (10, 16) ∧ g.1 (u + 12) = (10, 16) ∧ g.1 (u + 13) = (10, 16) ∧ g.2.1 u 0 = some (u + 1) ∧ g.2.1 u 1 = some (u + 2) ∧ g.2.1 u 2 = some (u + 11) ∧ g.2.1 u 3 = some (u + 12) ∧ g.2.1 u 4 = some (u + 13)
/-- an object's operations by their places: field k of the one at place i -/
abbrev opE (I : MI) (u : Nat) : Nat → Nat → Int32 := fun i k => I (u + 14 + i) k
def chgE (E : Nat → Nat → Int32) (kind : Int32) (p : Nat) (w : Int64) (sz : Int32) : Int64 × Int32 × Int32 := chg kind (E p 1) (E p 2) (E p 3) (E p 4) (fun i => E i 2) (fun i => E i 3) w sz
abbrev barred (E : Nat → Nat → Int32) (own key : Int32) (p : Nat) : Prop := (jiu (key &&& 65535) (nI p) &&& 1) ≠ 0 ∨ ((if own = 0 then E p 6 else E p 7) &&& ((key &&& 65535) ^^^ (-1))) ≠ 0
abbrev suits (E : Nat → Nat → Int32) (ret : Int32) (p : Nat) (res : Int32) : Prop := (jiu ret (nI p) &&& 1) = 0 ∨ res = E p 5
/-- word, size and result behind the operation at place p, where it can be done next -/
def stp (E : Nat → Nat → Int32) (kind ret own key : Int32) (w : Int64) (p : Nat) : Option (Int64 × Int32 × Int32) :=
  if barred E own key p then none else if suits E ret p (chgE E kind p w (jiu key 16)).2.2 then some (chgE E kind p w (jiu key 16)) else none
theorem ix15 (y : Int32) : ix (y &&& 15) < 16 := by
  obtain ⟨q, hq, e⟩ := pk_andE y (m := 15) 4 (by decide)
  show (y &&& 15).toNatClampNeg < 16
  rw [e, nI_clamp (by omega)]
  exact hq
theorem plc_congr {av av2 : Nat → Int32} {k sz : Int32} (h : ∀ i, i < 16 → av i = av2 i) : ∀ (n : Nat) (p : Int32) (w : Int64), plc av k sz n p w = plc av2 k sz n p w
  | 0, _, _ => rfl
  | n + 1, p, w => by
    simp only [plc]
    rw [h _ (ix15 _), plc_congr h n]
theorem chg_congr {kind code a b nm : Int32} {av av2 bv bv2 : Nat → Int32} {w : Int64} {sz : Int32} (h1 : ∀ i, i < 16 → av i = av2 i) (h2 : ∀ i, i < 16 → bv i = bv2 i) : chg kind code a b nm av bv w sz = chg kind code a b nm av2 bv2 w sz := by
  have e1 : chMap code a b nm bv w = chMap code a b nm bv2 w := by
    unfold chMap
    rw [h2 _ (ix15 _)]
  have e2 : chSeq kind code a nm av w sz = chSeq kind code a nm av2 w sz := by
    unfold chSeq remN
    rw [plc_congr h1, h1 _ (ix15 _)]
  unfold chg
  rw [e1, e2]
/-- all cells but the one at a are the same -/
def offA (a : Nat) (I : MI) (J : MJ) (I2 : MI) (J2 : MJ) : Prop := (∀ b, b ≠ a → I2 b = I b) ∧ ∀ b, b ≠ a → J2 b = J b
def stepQ (g : GM) (I : MI) (J : MJ) (s : Nat) (o : Option (Int64 × Int32 × Int32)) : Option Value → GM → MI → MJ → Prop := fun v g2 I2 J2 => g2 = g ∧ offA (s + 6) I J I2 J2 ∧ (o = none ∧ v = some (.int 0) ∨ ∃ c, o = some c ∧ v = some (.int 1) ∧ J2 (s + 6) 0 = c.1 ∧ I2 (s + 6) 1 = c.2.1 ∧ I2 (s + 6) 2 = c.2.2)
theorem c_Sp_step (l : Launch) (D : va_G) (g : GM) (I : MI) (J : MJ) {s u f p sz : Nat} (hS : SpAt g s) (hU : SuAt g u) (hf : f < 2000) (hp : p < 16) (hsz : jiu (I (s + 1 + 1) f) 16 = nI sz) (hsz2 : sz ≤ 16) : Ct l ySp_step bSp_step 8 (some .boolean) (rmN 3 73) D [.ref s, .ref u, .int (nI f), .int (nI p)] g I J (stepQ g I J s (stp (opE I u) (I u 5) (I s 6) (I s 7) (I (s + 1 + 1) f) (J (s + 1 + 2) f) p)) := by
  refine Ct.of (by decide) (ble rfl) [some (.ref s), some (.ref u), some (.int (nI f)), some (.int (nI p)), none, none, none, none] rfl ?_
  intro x C M
  obtain ⟨s0, ⟨t0, t1, t2, t3, t4, r0, r1, r2, r3⟩, s6, s7, s8, sr0, sr1, sr2, sr3⟩ := id hS
  obtain ⟨u0, hO, -, u11, u12, u13, ur0, ur1, ur2, ur3, ur4⟩ := id hU
  have uA := hO.1
  have hfc : (nI f).toNatClampNeg = f := nI_clamp (by omega)
  have hfi : vp_in (nI f) 2000 := vp_in_nI hf (by decide)
  have hpc : (nI p).toNatClampNeg = p := nI_clamp (by omega)
  have hpi : vp_in (nI p) 16 := vp_in_nI hp (by decide)
  have hor : g.2.1 (u + 1) (nI p).toNatClampNeg = some (u + 14 + p) := by rw [hpc]; exact (hO.2 p hp).1
  have ho : g.1 (u + 14 + p) = (0, 0) := (hO.2 p hp).2
  have ne1 : ∀ i, i < 16 → u + 14 + i ≠ s + 6 := fun i hi => sh_ne (hO.2 i hi).2 s6 (by decide)
  have ne2 : u ≠ s + 6 := sh_ne u0 s6 (by decide)
  have ne3 : s ≠ s + 6 := by omega
  refine v_aload_n C 0 dSp_step_0 rfl rfl ?_
  refine v_getr C cfSp (k := 0) (by assumption) rfl (by assumption) w79 dSp_step_1 ?_
  refine v_getr C cfTa (k := 0) (by assumption) rfl (by assumption) w38 dSp_step_4 ?_
  refine v_iload_n C 2 dSp_step_7 rfl rfl ?_
  refine v_iald C (by assumption) (by assumption) dSp_step_8 ?_
  rw [hfc]
  refine v_ldc C w272 dSp_step_9 ?_
  refine v_iand C dSp_step_11 ?_
  refine v_istore C dSp_step_12 (ble rfl) rfl ?_
  refine v_aload_n C 1 dSp_step_14 rfl rfl ?_
  refine v_getr C cfSu (k := 0) (by assumption) rfl (by assumption) w385 dSp_step_15 ?_
  refine v_iload_n C 3 dSp_step_18 rfl rfl ?_
  refine v_pald C (by assumption) (by assumption) (by assumption) dSp_step_19 ?_
  refine v_astore C dSp_step_20 (ble rfl) rfl ?_
  refine v_aload_n C 0 dSp_step_22 rfl rfl ?_
  refine v_geti C cfSp (k := 7) (by assumption) rfl w89 dSp_step_23 ?_
  have key : ∀ need : Int32, need = (if I s 7 = 0 then I (u + 14 + p) 6 else I (u + 14 + p) 7) → V x g 0 0 I J 42 [some (.ref s), some (.ref u), some (.int (nI f)), some (.int (nI p)), some (.int (I (s + 1 + 1) f &&& 65535)), some (.ref (u + 14 + p)), none, none] [.int need] := by
    intro need en
    refine v_istore C dSp_step_42 (ble rfl) rfl ?_
    refine v_iload C dSp_step_44 rfl ?_
    refine v_iload_n C 3 dSp_step_46 rfl rfl ?_
    refine v_iushr C dSp_step_47 ?_
    refine v_iconst C 1 dSp_step_48 (by decide) ?_
    refine v_iand C dSp_step_49 ?_
    have bad : barred (opE I u) (I s 7) (I (s + 1 + 1) f) p → V x g 0 0 I J 63 [some (.ref s), some (.ref u), some (.int (nI f)), some (.int (nI p)), some (.int (I (s + 1 + 1) f &&& 65535)), some (.ref (u + 14 + p)), some (.int need), none] [] := by
      intro hb
      refine v_iconst C 0 dSp_step_63 (by decide) ?_
      exact v_zret C M (by first | exact Or.inl rfl | exact Or.inr rfl | assumption) dSp_step_64 (ble rfl) (ble rfl) ⟨rfl, ⟨fun _ _ => rfl, fun _ _ => rfl⟩, Or.inl ⟨by unfold stp; rw [if_pos hb], rfl⟩⟩
    refine v_if_ne C 63 dSp_step_50 (by decide) (fun c50 => ?_) (fun c50 => ?_)
    · exact bad (Or.inl c50)
    · have c50 : (jiu (I (s + 1 + 1) f &&& 65535) (nI p) &&& 1) = 0 := c50
      refine v_iload C dSp_step_53 rfl ?_
      refine v_iload C dSp_step_55 rfl ?_
      refine v_iconst C (-1) dSp_step_57 (by decide) ?_
      refine v_ixor C dSp_step_58 ?_
      refine v_iand C dSp_step_59 ?_
      refine v_if_eq C 65 dSp_step_60 (by decide) (fun c60 => ?_) (fun c60 => ?_)
      · have hnb : ¬ barred (opE I u) (I s 7) (I (s + 1 + 1) f) p := by
          rintro (h | h)
          · exact h c50
          · exact h (by rw [← en]; exact c60)
        refine v_aload_n C 0 dSp_step_65 rfl rfl ?_
        refine v_getr C cfSp (k := 1) (by assumption) rfl (by assumption) w81 dSp_step_66 ?_
        refine v_aload_n C 0 dSp_step_69 rfl rfl ?_
        refine v_getr C cfSp (k := 0) (by assumption) rfl (by assumption) w79 dSp_step_70 ?_
        refine v_getr C cfTa (k := 1) (by assumption) rfl (by assumption) w40 dSp_step_73 ?_
        refine v_iload_n C 2 dSp_step_76 rfl rfl ?_
        refine v_lald C (by assumption) (by assumption) dSp_step_77 ?_
        refine v_aload_n C 0 dSp_step_78 rfl rfl ?_
        refine v_getr C cfSp (k := 0) (by assumption) rfl (by assumption) w79 dSp_step_79 ?_
        refine v_getr C cfTa (k := 0) (by assumption) rfl (by assumption) w38 dSp_step_82 ?_
        refine v_iload_n C 2 dSp_step_85 rfl rfl ?_
        rw [hfc]
        refine v_iald C (by assumption) (by assumption) dSp_step_86 ?_
        refine v_bipush C 16 dSp_step_87 (by decide) ?_
        refine v_iushr C dSp_step_89 ?_
        rw [hfc]
        refine v_cVv C (c_St_become (kl x) (kD x) g I J _ _ s6) mwSt_become cfSt (by assumption) w274 w275 w273 rfl rfl (ble rfl) (ble rfl) (ble rfl) (ble rfl) (ble rfl) dSp_step_90 ?_
        refine v_aload_n C 0 dSp_step_93 rfl rfl ?_
        refine v_getr C cfSp (k := 1) (by assumption) rfl (by assumption) w81 dSp_step_94 ?_
        refine v_aload_n C 1 dSp_step_97 rfl rfl ?_
        refine v_geti C cfSu (k := 5) (by assumption) rfl w392 dSp_step_98 ?_
        rw [s2_a ne2]
        refine v_aload C dSp_step_101 rfl ?_
        refine v_aload_n C 1 dSp_step_103 rfl rfl ?_
        refine v_getr C cfSu (k := 0) (by assumption) rfl (by assumption) w385 dSp_step_104 ?_
        refine v_cVv C (c_St_change (kl x) (kD x) g _ _ (I u 5) s6 ho hO (by rw [s2_self]; exact hsz) hsz2) mwSt_change cfSt (by assumption) w278 w279 w277 rfl rfl (ble rfl) (ble rfl) (ble rfl) (ble rfl) (ble rfl) dSp_step_107 ?_
        have ec : chgM (s2 I (s + 6) 1 (jiu (I (s + 1 + 1) f) 16)) (I u 5) (u + 14 + p) (u + 14) (s2 J (s + 6) 0 (J (s + 1 + 2) f) (s + 6) 0) (s2 I (s + 6) 1 (jiu (I (s + 1 + 1) f) 16) (s + 6) 1) = chgE (opE I u) (I u 5) p (J (s + 1 + 2) f) (jiu (I (s + 1 + 1) f) 16) := by
          unfold chgM chgE
          rw [s2_self, s2_self, s2_a (ne1 p hp), s2_a (ne1 p hp), s2_a (ne1 p hp), s2_a (ne1 p hp)]
          exact chg_congr (fun i hi => by rw [s2_a (ne1 i hi)]) (fun i hi => by rw [s2_a (ne1 i hi)])
        have hst : stp (opE I u) (I u 5) (I s 6) (I s 7) (I (s + 1 + 1) f) (J (s + 1 + 2) f) p = if suits (opE I u) (I s 6) p (chgE (opE I u) (I u 5) p (J (s + 1 + 2) f) (jiu (I (s + 1 + 1) f) 16)).2.2 then some (chgE (opE I u) (I u 5) p (J (s + 1 + 2) f) (jiu (I (s + 1 + 1) f) 16)) else none := by
          unfold stp
          rw [if_neg hnb]
        have fin : ∀ c, c = chgE (opE I u) (I u 5) p (J (s + 1 + 2) f) (jiu (I (s + 1 + 1) f) 16) → V x g 0 0 (s2 (s2 (s2 I (s + 6) 1 (jiu (I (s + 1 + 1) f) 16)) (s + 6) 1 c.2.1) (s + 6) 2 c.2.2) (s2 (s2 J (s + 6) 0 (J (s + 1 + 2) f)) (s + 6) 0 c.1) 110 [some (.ref s), some (.ref u), some (.int (nI f)), some (.int (nI p)), some (.int (I (s + 1 + 1) f &&& 65535)), some (.ref (u + 14 + p)), some (.int need), none] [] := by
          intro c ecc
          rw [← ecc] at hst
          generalize eI : s2 (s2 (s2 I (s + 6) 1 (jiu (I (s + 1 + 1) f) 16)) (s + 6) 1 c.2.1) (s + 6) 2 c.2.2 = I3
          generalize eJ : s2 (s2 J (s + 6) 0 (J (s + 1 + 2) f)) (s + 6) 0 c.1 = J3
          have o1 : offA (s + 6) I J I3 J3 := ⟨fun b hb => by rw [← eI, s2_off hb, s2_off hb, s2_off hb], fun b hb => by rw [← eJ, s2_off hb, s2_off hb]⟩
          have e1 : J3 (s + 6) 0 = c.1 := by rw [← eJ, s2_self]
          have e2 : I3 (s + 6) 1 = c.2.1 := by rw [← eI, s2_k (by decide), s2_self]
          have e3 : I3 (s + 6) 2 = c.2.2 := by rw [← eI, s2_self]
          have e4 : I3 s 6 = I s 6 := by rw [o1.1 s ne3]
          have e5 : I3 (u + 14 + p) 5 = I (u + 14 + p) 5 := by rw [o1.1 _ (ne1 p hp)]
          have done1 : suits (opE I u) (I s 6) p c.2.2 → ∀ z, V x g 0 0 I3 J3 148 [some (.ref s), some (.ref u), some (.int (nI f)), some (.int (nI p)), some (.int (I (s + 1 + 1) f &&& 65535)), some (.ref (u + 14 + p)), some (.int need), some (.int z)] [] := by
            intro hsu z
            refine v_iconst C 1 dSp_step_148 (by decide) ?_
            refine v_goto C 153 dSp_step_149 (by decide) ?_
            exact v_zret C M (by first | exact Or.inl rfl | exact Or.inr rfl | assumption) dSp_step_153 (ble rfl) (ble rfl) ⟨rfl, o1, Or.inr ⟨c, by rw [hst, if_pos hsu], rfl, e1, e2, e3⟩⟩
          refine v_aload_n C 0 dSp_step_110 rfl rfl ?_
          refine v_geti C cfSp (k := 6) (by assumption) rfl w88 dSp_step_111 ?_
          rw [e4]
          refine v_iload_n C 3 dSp_step_114 rfl rfl ?_
          refine v_iushr C dSp_step_115 ?_
          refine v_iconst C 1 dSp_step_116 (by decide) ?_
          refine v_iand C dSp_step_117 ?_
          have after : ∀ z : Int32, (z = 0 ∨ z = 1) → (z ≠ 0 ↔ (jiu (I s 6) (nI p) &&& 1) = 0) → V x g 0 0 I3 J3 126 [some (.ref s), some (.ref u), some (.int (nI f)), some (.int (nI p)), some (.int (I (s + 1 + 1) f &&& 65535)), some (.ref (u + 14 + p)), some (.int need), none] [.int z] := by
            intro z hz hz2
            refine v_istore C dSp_step_126 (ble rfl) rfl ?_
            refine v_iload C dSp_step_128 rfl ?_
            refine v_if_ne C 148 dSp_step_130 (by decide) (fun c130 => ?_) (fun c130 => ?_)
            · exact done1 (Or.inl (hz2.mp c130)) z
            · refine v_aload_n C 0 dSp_step_133 rfl rfl ?_
              refine v_getr C cfSp (k := 1) (by assumption) rfl (by assumption) w81 dSp_step_134 ?_
              refine v_geti C cfSt (k := 2) (by assumption) rfl w70 dSp_step_137 ?_
              rw [e3]
              refine v_aload C dSp_step_140 rfl ?_
              refine v_geti C cfOp (k := 5) (by assumption) rfl w361 dSp_step_142 ?_
              rw [e5]
              refine v_icmp_ne C 152 dSp_step_145 (by decide) (fun c145 => ?_) (fun c145 => ?_)
              · refine v_iconst C 0 dSp_step_152 (by decide) ?_
                have hns : ¬ suits (opE I u) (I s 6) p c.2.2 := by
                  rintro (h | h)
                  · exact (hz2.mpr h) c130
                  · exact c145 h
                exact v_zret C M (by first | exact Or.inl rfl | exact Or.inr rfl | assumption) dSp_step_153 (ble rfl) (ble rfl) ⟨rfl, o1, Or.inl ⟨by rw [hst, if_neg hns], rfl⟩⟩
              · exact done1 (Or.inr c145) z
          refine v_if_ne C 125 dSp_step_118 (by decide) (fun c118 => ?_) (fun c118 => ?_)
          · refine v_iconst C 0 dSp_step_125 (by decide) ?_
            exact after 0 (Or.inl rfl) ⟨fun h => absurd rfl h, fun h => absurd h c118⟩
          · refine v_iconst C 1 dSp_step_121 (by decide) ?_
            refine v_goto C 126 dSp_step_122 (by decide) ?_
            exact after 1 (Or.inr rfl) ⟨fun _ => c118, fun _ => by decide⟩
        exact fin _ ec
      · exact bad (Or.inr (by rw [← en]; exact c60))
  refine v_if_eq C 37 dSp_step_26 (by decide) (fun c26 => ?_) (fun c26 => ?_)
  · refine v_aload C dSp_step_37 rfl ?_
    refine v_geti C cfOp (k := 6) (by assumption) rfl w363 dSp_step_39 ?_
    exact key _ (by rw [if_pos c26])
  · refine v_aload C dSp_step_29 rfl ?_
    refine v_geti C cfOp (k := 7) (by assumption) rfl w365 dSp_step_31 ?_
    refine v_goto C 42 dSp_step_34 (by decide) ?_
    exact key _ (by rw [if_neg c26])
def keyB (key : Int32) (p : Nat) (sz : Int32) : Int32 := ((key &&& 65535) ||| jish 1 (nI p)) ||| jish sz 16
theorem c_Sp_keyBehind (l : Launch) (D : va_G) (g : GM) (I : MI) (J : MJ) {s f : Nat} (p : Nat) (hS : SpAt g s) (hf : f < 2000) : Ct l ySp_keyBehind bSp_keyBehind 3 (some .int) (rmN 0 0) D [.ref s, .int (nI f), .int (nI p)] g I J (PF (some (.int (keyB (I (s + 1 + 1) f) p (I (s + 6) 1)))) g I J) := by
  refine Ct.of (by decide) (ble rfl) [some (.ref s), some (.int (nI f)), some (.int (nI p))] rfl ?_
  intro x C M
  obtain ⟨s0, ⟨t0, t1, t2, t3, t4, r0, r1, r2, r3⟩, s6, s7, s8, sr0, sr1, sr2, sr3⟩ := id hS
  have hfc : (nI f).toNatClampNeg = f := nI_clamp (by omega)
  have hfi : vp_in (nI f) 2000 := vp_in_nI hf (by decide)
  refine v_aload_n C 0 dSp_keyBehind_0 rfl rfl ?_
  refine v_getr C cfSp (k := 0) (by assumption) rfl (by assumption) w79 dSp_keyBehind_1 ?_
  refine v_getr C cfTa (k := 0) (by assumption) rfl (by assumption) w38 dSp_keyBehind_4 ?_
  refine v_iload_n C 1 dSp_keyBehind_7 rfl rfl ?_
  refine v_iald C (by assumption) (by assumption) dSp_keyBehind_8 ?_
  rw [hfc]
  refine v_ldc C w272 dSp_keyBehind_9 ?_
  refine v_iand C dSp_keyBehind_11 ?_
  refine v_iconst C 1 dSp_keyBehind_12 (by decide) ?_
  refine v_iload_n C 2 dSp_keyBehind_13 rfl rfl ?_
  refine v_ishl C dSp_keyBehind_14 ?_
  refine v_ior C dSp_keyBehind_15 ?_
  refine v_aload_n C 0 dSp_keyBehind_16 rfl rfl ?_
  refine v_getr C cfSp (k := 1) (by assumption) rfl (by assumption) w81 dSp_keyBehind_17 ?_
  refine v_geti C cfSt (k := 1) (by assumption) rfl w68 dSp_keyBehind_20 ?_
  refine v_bipush C 16 dSp_keyBehind_23 (by decide) ?_
  refine v_ishl C dSp_keyBehind_25 ?_
  refine v_ior C dSp_keyBehind_26 ?_
  exact v_iret C M dSp_keyBehind_27 (ble rfl) (ble rfl) (pf_i rfl rfl rfl)
theorem TabOK.off {I I2 : MI} {J J2 : MJ} {t n : Nat} (h : TabOK I J t n) (h1 : ∀ b, t ≤ b → b < t + 5 → I2 b = I b) (h2 : J2 (t + 2) = J (t + 2)) : TabOK I2 J2 t n := by
  have e1 := h1 t (by omega) (by omega)
  have e2 := h1 (t + 1) (by omega) (by omega)
  have e3 := h1 (t + 3) (by omega) (by omega)
  have e4 := h1 (t + 4) (by omega) (by omega)
  have eh : hs9 I2 J2 t = hs9 I J t := by
    funext i
    unfold hs9
    rw [e2, h2]
  unfold TabOK
  rw [e1, e3, e4, eh]
  exact h
def targQ (g : GM) (I : MI) (J : MJ) (s n : Nat) (key : Int32) (p : Nat) (o : Option (Int64 × Int32 × Int32)) : Option Value → GM → MI → MJ → Prop := fun v g2 I2 J2 => g2 = g ∧ offA (s + 6) I J I2 J2 ∧ (o = none ∧ v = some (.int (-1)) ∨ ∃ c, o = some c ∧ v = some (.int (lk (I (s + 1 + 1)) (J (s + 1 + 2)) (keyB key p c.2.1) c.1 n)) ∧ I2 (s + 6) 2 = c.2.2)
theorem c_Sp_target (l : Launch) (D : va_G) (g : GM) (I : MI) (J : MJ) {s u f p sz n : Nat} (hS : SpAt g s) (hU : SuAt g u) (hf : f < 2000) (hp : p < 16) (hsz : jiu (I (s + 1 + 1) f) 16 = nI sz) (hsz2 : sz ≤ 16) (hok : TabOK I J (s + 1) n) : Ct l ySp_target bSp_target 4 (some .int) (rmN 4 100) D [.ref s, .ref u, .int (nI f), .int (nI p)] g I J (targQ g I J s n (I (s + 1 + 1) f) p (stp (opE I u) (I u 5) (I s 6) (I s 7) (I (s + 1 + 1) f) (J (s + 1 + 2) f) p)) := by
  refine Ct.of (by decide) (ble rfl) [some (.ref s), some (.ref u), some (.int (nI f)), some (.int (nI p))] rfl ?_
  intro x C M
  obtain ⟨s0, hT, s6, s7, s8, sr0, sr1, sr2, sr3⟩ := id hS
  have t0 := hT.1
  refine v_aload_n C 0 dSp_target_0 rfl rfl ?_
  refine v_aload_n C 1 dSp_target_1 rfl rfl ?_
  refine v_iload_n C 2 dSp_target_2 rfl rfl ?_
  refine v_iload_n C 3 dSp_target_3 rfl rfl ?_
  refine v_callV C (c_Sp_step (kl x) (kD x) g I J hS hU hf hp hsz hsz2) mwSp_step cfSp (by assumption) w270 ws4 w268 rfl rfl (ble rfl) (ble rfl) (ble rfl) (ble rfl) (ble rfl) dSp_target_4 ?_
  rintro v g2 I2 J2 ⟨rfl, ho, h⟩
  rcases h with ⟨e1, rfl⟩ | ⟨c, e1, rfl, e2, e3, e4⟩
  · refine v_if_ne C 12 dSp_target_7 (by decide) (fun h => absurd (by decide) h) (fun _ => ?_)
    refine v_iconst C (-1) dSp_target_10 (by decide) ?_
    exact v_iret C M dSp_target_11 (ble rfl) (ble rfl) ⟨rfl, ho, Or.inl ⟨e1, rfl⟩⟩
  · refine v_if_ne C 12 dSp_target_7 (by decide) (fun _ => ?_) (fun h => absurd h (by decide))
    have hok2 : TabOK I2 J2 (s + 1) n := hok.off (fun b h1 h2 => ho.1 b (by omega)) (ho.2 _ (by omega))
    have k1 : I2 (s + 1 + 1) = I (s + 1 + 1) := ho.1 _ (by omega)
    have k2 : J2 (s + 1 + 2) = J (s + 1 + 2) := ho.2 _ (by omega)
    refine v_aload_n C 0 dSp_target_12 rfl rfl ?_
    refine v_getr C cfSp (k := 0) (by assumption) rfl (by assumption) w79 dSp_target_13 ?_
    refine v_aload_n C 0 dSp_target_16 rfl rfl ?_
    refine v_iload_n C 2 dSp_target_17 rfl rfl ?_
    refine v_iload_n C 3 dSp_target_18 rfl rfl ?_
    refine v_cVi C (c_Sp_keyBehind (kl x) (kD x) _ I2 J2 p hS hf) mwSp_keyBehind cfSp (by assumption) w314 ws12 w312 rfl rfl (ble rfl) (ble rfl) (ble rfl) (ble rfl) (ble rfl) dSp_target_19 ?_
    rw [e3, k1]
    refine v_aload_n C 0 dSp_target_22 rfl rfl ?_
    refine v_getr C cfSp (k := 1) (by assumption) rfl (by assumption) w81 dSp_target_23 ?_
    refine v_getl C cfSt (k := 0) (by assumption) rfl w66 dSp_target_26 ?_
    rw [e2]
    refine v_cVi C (c_Ta_find (kl x) (kD x) _ I2 J2 _ _ hT hok2) mwTa_find cfTa (by assumption) w611 w612 w610 rfl rfl (ble rfl) (ble rfl) (ble rfl) (ble rfl) (ble rfl) dSp_target_29 ?_
    rw [k1, k2]
    exact v_iret C M dSp_target_32 (ble rfl) (ble rfl) ⟨rfl, ho, Or.inr ⟨c, e1, rfl, e4⟩⟩
abbrev isE (ret key : Int32) : Prop := ret &&& (key ^^^ (-1)) = 0
theorem c_Sp_isEnd (l : Launch) (D : va_G) (g : GM) (I : MI) (J : MJ) {s f : Nat} (hS : SpAt g s) (hf : f < 2000) : Ct l ySp_isEnd bSp_isEnd 2 (some .boolean) (rmN 0 0) D [.ref s, .int (nI f)] g I J (PF (some (.int (if isE (I s 6) (I (s + 1 + 1) f) then 1 else 0))) g I J) := by
  refine Ct.of (by decide) (ble rfl) [some (.ref s), some (.int (nI f))] rfl ?_
  intro x C M
  obtain ⟨s0, ⟨t0, t1, t2, t3, t4, r0, r1, r2, r3⟩, s6, s7, s8, sr0, sr1, sr2, sr3⟩ := id hS
  have hfc : (nI f).toNatClampNeg = f := nI_clamp (by omega)
  have hfi : vp_in (nI f) 2000 := vp_in_nI hf (by decide)
  refine v_aload_n C 0 dSp_isEnd_0 rfl rfl ?_
  refine v_geti C cfSp (k := 6) (by assumption) rfl w88 dSp_isEnd_1 ?_
  refine v_aload_n C 0 dSp_isEnd_4 rfl rfl ?_
  refine v_getr C cfSp (k := 0) (by assumption) rfl (by assumption) w79 dSp_isEnd_5 ?_
  refine v_getr C cfTa (k := 0) (by assumption) rfl (by assumption) w38 dSp_isEnd_8 ?_
  refine v_iload_n C 1 dSp_isEnd_11 rfl rfl ?_
  refine v_iald C (by assumption) (by assumption) dSp_isEnd_12 ?_
  rw [hfc]
  refine v_iconst C (-1) dSp_isEnd_13 (by decide) ?_
  refine v_ixor C dSp_isEnd_14 ?_
  refine v_iand C dSp_isEnd_15 ?_
  refine v_if_ne C 23 dSp_isEnd_16 (by decide) (fun c16 => ?_) (fun c16 => ?_)
  · refine v_iconst C 0 dSp_isEnd_23 (by decide) ?_
    exact v_zret C M (by first | exact Or.inl rfl | exact Or.inr rfl | assumption) dSp_isEnd_24 (ble rfl) (ble rfl) (pf_i (by rw [if_neg c16]) rfl rfl)
  · refine v_iconst C 1 dSp_isEnd_19 (by decide) ?_
    refine v_goto C 24 dSp_isEnd_20 (by decide) ?_
    exact v_zret C M (by first | exact Or.inl rfl | exact Or.inr rfl | assumption) dSp_isEnd_24 (ble rfl) (ble rfl) (pf_i (by rw [if_pos c16]) rfl rfl)
def wsum (ret : Int32) (K : Nat → Int32) (Y : Nat → Int64) : Nat → Int64
  | 0 => 0
  | m + 1 => if isE ret (K m) then wsum ret K Y m + Y m else wsum ret K Y m
theorem c_Sp_waysToEnds (l : Launch) (D : va_G) (g : GM) (I : MI) (J : MJ) {s n : Nat} (hS : SpAt g s) (hn : I (s + 1) 4 = nI n) (hn2 : n ≤ 2000) : Ct l ySp_waysToEnds bSp_waysToEnds 4 (some .long) (rmN 1 21) D [.ref s] g I J (PF (some (.long (wsum (I s 6) (I (s + 1 + 1)) (J (s + 7)) n))) g I J) := by
  refine Ct.of (by decide) (ble rfl) [some (.ref s), none, none, none] rfl ?_
  intro x C M
  obtain ⟨s0, ⟨t0, t1, t2, t3, t4, r0, r1, r2, r3⟩, s6, s7, s8, sr0, sr1, sr2, sr3⟩ := id hS
  refine v_lconst C 0 dSp_waysToEnds_0 (by decide) ?_
  refine v_lstore_n C 1 dSp_waysToEnds_1 rfl (ble rfl) rfl ?_
  refine v_iconst C 0 dSp_waysToEnds_2 (by decide) ?_
  refine v_istore_n C 3 dSp_waysToEnds_3 rfl (ble rfl) rfl ?_
  have loop : ∀ (m i : Nat) (sum : Int64), i + m = n → sum = wsum (I s 6) (I (s + 1 + 1)) (J (s + 7)) i → V x g 0 0 I J 4 [some (.ref s), some (.long sum), none, some (.int (nI i))] [] := by
    intro m
    induction m with
    | zero =>
      intro i sum h1 h2
      refine v_iload_n C 3 dSp_waysToEnds_4 rfl rfl ?_
      refine v_aload_n C 0 dSp_waysToEnds_5 rfl rfl ?_
      refine v_getr C cfSp (k := 0) (by assumption) rfl (by assumption) w79 dSp_waysToEnds_6 ?_
      refine v_geti C cfTa (k := 4) (by assumption) rfl w44 dSp_waysToEnds_9 ?_
      rw [hn]
      refine v_icmp_ge C 38 dSp_waysToEnds_12 (by decide) (fun _ => ?_) (fun h => absurd (nI_le (by omega) (by omega)) h)
      refine v_lload_n C 1 dSp_waysToEnds_38 rfl rfl ?_
      have h3 : i = n := by omega
      exact v_lret C M dSp_waysToEnds_39 (ble rfl) (ble rfl) (pf_l (by rw [h2, h3]) rfl rfl)
    | succ m ih =>
      intro i sum h1 h2
      have hi : i < 2000 := by omega
      have hic : (nI i).toNatClampNeg = i := nI_clamp (by omega)
      have hii : vp_in (nI i) 2000 := vp_in_nI hi (by decide)
      refine v_iload_n C 3 dSp_waysToEnds_4 rfl rfl ?_
      refine v_aload_n C 0 dSp_waysToEnds_5 rfl rfl ?_
      refine v_getr C cfSp (k := 0) (by assumption) rfl (by assumption) w79 dSp_waysToEnds_6 ?_
      refine v_geti C cfTa (k := 4) (by assumption) rfl w44 dSp_waysToEnds_9 ?_
      rw [hn]
      refine v_icmp_ge C 38 dSp_waysToEnds_12 (by decide) (fun h => absurd h (nI_ge (by omega) (by omega))) (fun _ => ?_)
      refine v_aload_n C 0 dSp_waysToEnds_15 rfl rfl ?_
      refine v_iload_n C 3 dSp_waysToEnds_16 rfl rfl ?_
      refine v_cVi C (c_Sp_isEnd (kl x) (kD x) g I J hS hi) mwSp_isEnd cfSp (by assumption) w321 w322 w320 rfl rfl (ble rfl) (ble rfl) (ble rfl) (ble rfl) (ble rfl) dSp_waysToEnds_17 ?_
      by_cases hE : isE (I s 6) (I (s + 1 + 1) i)
      · rw [if_pos hE]
        refine v_if_eq C 32 dSp_waysToEnds_20 (by decide) (fun h => absurd h (by decide)) (fun _ => ?_)
        refine v_lload_n C 1 dSp_waysToEnds_23 rfl rfl ?_
        refine v_aload_n C 0 dSp_waysToEnds_24 rfl rfl ?_
        refine v_getr C cfSp (k := 2) (by assumption) rfl (by assumption) w83 dSp_waysToEnds_25 ?_
        refine v_iload_n C 3 dSp_waysToEnds_28 rfl rfl ?_
        refine v_lald C (by assumption) (by assumption) dSp_waysToEnds_29 ?_
        rw [hic]
        refine v_ladd C dSp_waysToEnds_30 ?_
        refine v_lstore_n C 1 dSp_waysToEnds_31 rfl (ble rfl) rfl ?_
        refine v_iinc C (nI (i + 1)) dSp_waysToEnds_32 rfl (nI_1 i) (ble rfl) rfl ?_
        refine v_goto C 4 dSp_waysToEnds_35 (by decide) ?_
        exact ih (i + 1) _ (by omega) (by rw [h2]; show _ = (if _ then _ else _); rw [if_pos hE])
      · rw [if_neg hE]
        refine v_if_eq C 32 dSp_waysToEnds_20 (by decide) (fun _ => ?_) (fun h => absurd rfl h)
        refine v_iinc C (nI (i + 1)) dSp_waysToEnds_32 rfl (nI_1 i) (ble rfl) rfl ?_
        refine v_goto C 4 dSp_waysToEnds_35 (by decide) ?_
        exact ih (i + 1) _ (by omega) (by rw [h2]; show _ = (if _ then _ else _); rw [if_neg hE])
  exact loop n 0 0 (by omega) rfl
