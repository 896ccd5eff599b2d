/-! THROWS: what they need beside the words: the exceptions' own words, the texts, two statics of Throwable -/
abbrev xA : String := "java/lang/IllegalArgumentException"
abbrev xS : String := "java/lang/IllegalStateException"
abbrev xB : String := "java/lang/IndexOutOfBoundsException"
def znm : List String := ["java/lang/RuntimeException", "java/lang/Exception"]
def zws : List Cond := [.declares ⟨"java/lang/RuntimeException", "<init>", "(Ljava/lang/String;)V"⟩, .declares ⟨"java/lang/Exception", "<init>", "(Ljava/lang/String;)V"⟩, .declares ⟨"java/lang/Throwable", "<init>", "(Ljava/lang/String;)V"⟩, .castable xA xA, .castable xS xS, .castable xB xB]
def zst : List (Nat × String) := [(160, "the history is not linear"), (164, "no such place in the row"), (167, "no such process"), (169, "the process waits for no operation"), (171, "no such object"), (53, "no such kind"), (82, "no such operation"), (86, "the process waits for an operation")]
def Zt (U : State) : Prop := (∀ w ∈ zws, va_Nw w U) ∧ (∀ q ∈ zst, ∃ sa, vk_R RLH q.1 q.2 sa U) ∧ va_Nc xS xA U ∧ va_Nc xB xS U
theorem Zt.warm {s U : State} (hW : s.WarmedH U.vm) (h : Zt s) : Zt U := by
  refine ⟨fun w hw => ?_, fun q hq => ?_, h.2.2.1.moved hW.alike, h.2.2.2.moved hW.alike⟩
  · have h4 := h.1 w hw
    simp only [zws, List.mem_cons, List.not_mem_nil, or_false] at hw
    rcases hw with rfl | rfl | rfl | rfl | rfl | rfl
    · exact va_tabs rfl (rfl : (s.setVm U.vm).vm = U.vm) (A := #[]) (by rw [Cond.declares_setVm hW.alike]; exact h4)
    · exact va_tabs rfl (rfl : (s.setVm U.vm).vm = U.vm) (A := #[]) (by rw [Cond.declares_setVm hW.alike]; exact h4)
    · exact va_tabs rfl (rfl : (s.setVm U.vm).vm = U.vm) (A := #[]) (by rw [Cond.declares_setVm hW.alike]; exact h4)
    · exact va_Nw.warmC hW h4
    · exact va_Nw.warmC hW h4
    · exact va_Nw.warmC hW h4
  · obtain ⟨sa, h5⟩ := h.2.1 q hq
    exact ⟨sa, vk_R.warm hW h5⟩
theorem Zt.same {s U : State} (hv : s.vm = U.vm) (h : Zt s) : Zt U := by
  have ha : s.vm.Alike U.vm := by rw [hv]; exact Vm.Alike.refl _
  refine ⟨fun w hw => ?_, fun q hq => ?_, h.2.2.1.moved ha, h.2.2.2.moved ha⟩
  · have h4 := h.1 w hw
    simp only [zws, List.mem_cons, List.not_mem_nil, or_false] at hw
    rcases hw with rfl | rfl | rfl | rfl | rfl | rfl <;> exact va_Nw.same rfl hv h4
  · obtain ⟨sa, h5⟩ := h.2.1 q hq
    exact ⟨sa, vk_R.same hv.symm h5⟩
def Zh (A : Nat → Prop) (U : State) (H : Heap) : Prop := vx_Zq Bundle.tN "UNASSIGNED_STACK" Bundle.steD A U H ∧ vx_Zq Bundle.tN "SUPPRESSED_SENTINEL" Bundle.listD A U H
theorem Zh.moved {A : Nat → Prop} {u U : State} {H : Heap} (hvm : u.vm.Alike U.vm) (h : Zh A u H) : Zh A U H := ⟨h.1.moved hvm, h.2.moved hvm⟩
theorem Zh.kept {A : Nat → Prop} {U : State} {H H1 : Heap} (h : Zh A U H) (hq : ∀ a : Nat, a < H.size → ¬ A a → H1[a]? = H[a]?) : Zh A U H1 := ⟨h.1.kept hq, h.2.kept hq⟩
theorem Zh.narrow {A B : Nat → Prop} {U : State} {H : Heap} (h : Zh A U H) (hAB : ∀ q, B q → A q) : Zh B U H := ⟨h.1.narrow hAB, h.2.narrow hAB⟩
/-- the words of one exception's throws -/
def ZE (cls : String) (ik ic : Nat) : Prop := Bundle.fit cls = true ∧ Cond.classLink RLH ik cls ∈ TB ∧ Cond.initialized cls ∈ TB ∧ (∀ w ∈ (vx_atS RLH ic cls znm).filter goodWord, w ∈ TB) ∧ (∀ w ∈ (vx_atS RLH ic cls znm).filter (fun w => !goodWord w), w ∈ zws) ∧ (Cond.classLink RLH ik cls :: Cond.initialized cls :: vx_atS RLH ic cls znm).all vx_ot = true
theorem ze_in {ic : Nat} {cls : String} (ps : List Nat) (h : (vx_atS RLH ic cls znm).filter goodWord = ps.filterMap (fun i => lw_tbl[i]?)) : ∀ w ∈ (vx_atS RLH ic cls znm).filter goodWord, w ∈ TB := fun w hw => by
  have hg := (List.mem_filter.mp hw).2
  rw [h] at hw
  obtain ⟨i, -, hi⟩ := List.mem_filterMap.mp hw
  exact List.mem_filter.mpr ⟨List.mem_of_getElem? hi, hg⟩
theorem zeA : ZE xA 51 55 := ⟨by decide +kernel, tb_t 173 (by decide +kernel) (by decide +kernel), w10, ze_in [54, 242, 251, 255, 258, 260, 243, 244, 68, 69, 245, 250, 256, 276, 232, 277, 234, 278, 236, 246, 248, 238, 272, 273, 275, 238, 263, 264, 265, 266, 266, 267, 268, 269, 269, 270, 271, 272, 262, 221, 229, 230, 231, 233, 235, 237, 241, 240, 239] (by decide +kernel), by decide +kernel, by decide +kernel⟩
theorem zeS : ZE xS 84 88 := ⟨by decide +kernel, tb_t 475 (by decide +kernel) (by decide +kernel), w13, ze_in [54, 242, 251, 255, 258, 260, 243, 244, 68, 69, 245, 250, 256, 276, 232, 277, 234, 278, 236, 246, 248, 238, 272, 273, 275, 238, 533, 534, 535, 266, 266, 267, 268, 269, 269, 270, 271, 272, 532, 523, 525, 253, 526, 527, 528, 529, 241, 240, 530] (by decide +kernel), by decide +kernel, by decide +kernel⟩
theorem zeB : ZE xB 162 166 := ⟨by decide +kernel, tb_t 637 (by decide +kernel) (by decide +kernel), w14, ze_in [54, 242, 251, 255, 258, 260, 243, 244, 68, 69, 245, 250, 256, 276, 232, 277, 234, 278, 236, 246, 248, 238, 272, 273, 275, 238, 695, 696, 697, 266, 266, 267, 268, 269, 269, 270, 271, 272, 694, 685, 687, 254, 688, 689, 690, 691, 241, 240, 692] (by decide +kernel), by decide +kernel, by decide +kernel⟩
/-! contracts of methods that throw -/
def XP (D : va_G) (A : Nat → Prop) (PostX : String → GM → MI → MJ → Prop) : String → State → State → Prop := fun E st t => (∃ (g : GM) (I : MI) (J : MJ), PostX E g I J ∧ t.heap.size = g.2.2 ∧ Wo D g.1 g.2.1 I J t.heap ∧ ∀ a : Nat, (g.1 a).1 ≠ 99 → A a) ∧ va_F A st t
def PPX (D : va_G) (g : GM) (I : MI) (J : MJ) (av : List Value) : Array Value → State → Prop := va_Pc av (fun U => U.heap.size = g.2.2 ∧ Wo D g.1 g.2.1 I J U.heap ∧ KK D U ∧ Zt U ∧ Zh (AA g) U U.heap)
def NoR : Array Value → State → Outcome → State → Prop := fun _ _ _ _ => False
def CtT (l : Launch) (y : MethodName) (cc : ByteArray) (nL : Nat) (ret : Option FieldType) (rm : Room) (D : va_G) (av : List Value) (g : GM) (I : MI) (J : MJ) (PostX : String → GM → MI → MJ → Prop) : Prop :=
  l.stackTraces = false → vx_Met l y (.code y cc nL ret :: TB) rm (PPX D g I J av) NoR (XP D (AA g) PostX) rm.cells rm.slots (AA g)
theorem PPX_blind {D : va_G} {g : GM} {I : MI} {J : MJ} {av : List Value} : FrameBlind (PPX D g I J av) := fun a U g2 mk q => by
  obtain ⟨q0, q1, qP, qK, qZ, qH⟩ := q
  exact ⟨q0, q1, qP, KK.same (s := U) (U := U.calling g2 mk a) rfl qK, Zt.same (s := U) (U := U.calling g2 mk a) rfl qZ, qH.moved (u := U) (U := U.calling g2 mk a) (Vm.Alike.refl _)⟩
/-- what a walk that throws knows -/
def MT (x : KX) (l : Launch) (D : va_G) (g : GM) (rm : Room) (PostX : String → GM → MI → MJ → Prop) : Prop :=
  kl x = l ∧ kD x = D ∧ l.stackTraces = false ∧ kA x = AA g ∧ kQ x = vx_MQ (kbe x) NoR (XP D (AA g) PostX) (kar x) (ks x) rm.cells rm.slots (AA g) ∧ (∀ z ∈ (kc x).exceptionTable.toList, False) ∧ Zt (ks x) ∧ Zh (kA x) (ks x) (ks x).heap
theorem CtT.of {l : Launch} {y : MethodName} {cc : ByteArray} {nL : Nat} {ret : Option FieldType} {rm : Room} {D : va_G} {av : List Value} {g : GM} {I : MI} {J : MJ} {PostX : String → GM → MI → MJ → Prop} (hy : plainName y.cls = true) (hlen : (lg_sl av).length ≤ nL) (lv0 : List (Option Value)) (he : prs lv0 = lv_args 0 av)
    (body : ∀ x : KX, Cx x cc y.cls nL rm → MT x l D g rm PostX → V x g 0 0 I J 0 lv0 []) : CtT l y cc nL ret rm D av g I J PostX := by
  intro hst
  refine vx_ofW (cc := cc) (maxL := nL) (ret := ret) hy rfl ?_
  intro p e s m args below meth c s₁ B hml hex hv
  obtain ⟨rfl, hsz, hP, hK, hZ, hH⟩ := hv
  have hts := atoms_spec (ws := Cond.code y cc nL ret :: TB) B.pre
  have hown : s.vm.findClass y.cls = some m.cls := findClass_of_methodNamed B.named
  have hl := lv_entry av (n := nL) hlen
  rw [lg_entry_eq]
  generalize (lg_sl av ++ List.replicate (nL - (lg_sl av).length) Slot.unset).toArray = ls at hl ⊢
  have hA : ∀ q, s.heap.size ≤ q → AA g q := fun q h => Or.inr (by rw [← hsz]; exact h)
  refine body (p, l, e, rm, s, m, av.toArray, below, meth, c, nL, D, AA g, vx_MQ below NoR (XP D (AA g) PostX) av.toArray s rm.cells rm.slots (AA g)) ⟨B.exec, B.bytes, hown, fun w hw => hts w (List.mem_cons_of_mem _ hw), hK, hml, rfl, rfl, B.notSynchronized, hA⟩ ⟨rfl, rfl, hst, rfl, rfl, hex, hZ, hH⟩ s.heap [] ls hsz hP (fun a ha => Or.inl ha) va_S.rf ?_
  show lv_has ls nL (prs lv0)
  rw [he]
  exact hl
section VT
variable {x : KX} {cc : ByteArray} {own : String} {nL : Nat} {rm : Room} {g : GM} {cells slots : Nat} {I : MI} {J : MJ} {pc : Nat} {lv : List (Option Value)} {st : List Value}
variable {l : Launch} {D : va_G} {g0 : GM} {PostX : String → GM → MI → MJ → Prop}
/-- 'throw new E("text")' -/
theorem v_throw (C : Cx x cc RLH nL rm) (M : MT x l D g0 rm PostX) {cls text : String} {ik is ic : Nat} (z : ZE cls ik ic) (hs : (is, text) ∈ zst) (d0 : decode cc pc = .ok (.new ik, 3)) (d3 : decode cc (pc + 3) = .ok (.dup, 1)) (d4 : decode cc (pc + 4) = .ok (.ldc is, 2)) (d6 : decode cc (pc + 6) = .ok (.invokespecial ic, 3)) (d9 : decode cc (pc + 9) = .ok (.athrow, 1)) (hf : 5 < rm.frames) (hlo : (st.map fun v => v.category).sum + 82 ≤ rm.locals) (hc : cells + 1 ≤ rm.cells) (hsl : slots + 6 ≤ rm.slots) (hp : ∀ q, g.2.2 ≤ q → PostX cls (g.1, g.2.1, q) I J) : V x g cells slots I J pc lv st := fun H locs ls a1 a2 a3 a4 a5 => by
  obtain ⟨m1, m2, m3, m4, m5, m6, m7, m8⟩ := M
  obtain ⟨z0, z1, z2, z3, z4, z5⟩ := z
  have hR := C.2.2.2.2.2.2.2.1
  obtain ⟨sa, hsa⟩ := m7.2.1 _ hs
  rw [m5]
  refine vx_throwS (cc := cc) (A := kA x) (names := znm) (sa := sa) C.1 C.2.1 (by rw [m1]; exact m3) C.2.2.1 z0 (by decide +kernel) (C.tb z1) (C.tb z2) hsa (vx_hat (fun w hw => C.tb (z3 w hw)) z4 (fun w hw => ?_)) (fun w hw => List.all_eq_true.mp z5 w hw) m8.1 m8.2 a4 (a5.1.trans (by rw [C.2.2.2.2.2.1]; exact C.2.2.2.2.2.2.1)) d0 d3 d4 d6 d9 (fun z hz => (m6 z hz).elim) (by rw [hR]; exact hf) (by rw [hR]; exact hlo) (by rw [hR]; exact hc) (by rw [hR]; exact hsl) C.2.2.2.2.2.2.2.2.1 ?_ (fun q hq => by rw [← m4]; exact a4.2.2 q hq) hc hsl
  · have h4 := m7.1 w hw
    refine va_Nw.use ?_ h4
    simp only [zws, List.mem_cons, List.not_mem_nil, or_false] at hw
    rcases hw with rfl | rfl | rfl | rfl | rfl | rfl <;> rfl
  · intro t ht hsz hk
    refine ⟨⟨(g.1, g.2.1, t.heap.size), I, J, hp _ (by rw [← a1]; exact hsz), rfl, ?_, fun a ha => by rw [← m4]; exact a3 a ha⟩, Nat.le_trans a4.1 hsz, fun q h1 h2 => ?_⟩
    · rw [← m2]
      intro a ha
      exact (a2 a ha).kept (hk a (a2.lt ha))
    · rw [hk q (Nat.lt_of_lt_of_le h1 a4.1)]
      exact a4.2.1 q h1 (by rw [m4]; exact h2)
/-- a call that throws, and is not caught here -/
theorem v_outV (C : Cx x cc own nL rm) (M : MT x l D g0 rm PostX) {PX : String → GM → MI → MJ → Prop} {y : MethodName} {cc2 : ByteArray} {nL2 n idx b ci m2 N : Nat} {ret2 : Option FieldType} {rm2 : Room} {As stk : List Value} {Cn : String} {T : u_T} {ty : Nat → FieldType} (hct : CtT (kl x) y cc2 nL2 ret2 rm2 (kD x) (.ref b :: As) g I J PX) (hm : MW y cc2 nL2 ret2 n) (F : CF ci Cn T N ty) (hb : g.1 b = (ci, m2)) (hi : Cond.instanceMethod y ∈ TB) (hse : Cond.selects Cn y y ∈ TB) (hl : Cond.methodLink own idx y ∈ TB) (hn : As.length = n) (hst : stk = As.reverse ++ .ref b :: st) (hW : (st.map fun v => v.category).sum ≤ 8) (hf : rm2.frames + 1 ≤ rm.frames) (hlo : 8 + (nL2 + 11) + rm2.locals ≤ rm.locals) (hc2 : cells + rm2.cells ≤ rm.cells) (hs2 : slots + rm2.slots ≤ rm.slots) (d : decode cc pc = .ok (.invokevirtual idx, 3)) (hp : ∀ (E : String) (g2 : GM) (I2 : MI) (J2 : MJ), PX E g2 I2 J2 → PostX E g2 I2 J2) : V x g cells slots I J pc lv stk := fun H locs ls a1 a2 a3 a4 a5 => by
  obtain ⟨m1, m2', m3, m4, m5, m6, m7, m8⟩ := M
  obtain ⟨f1, f2, f3, f4, f5, f6⟩ := F
  have hE := a2 b (sh_live hb (by omega))
  rw [cE_o hb f6] at hE
  have hR := C.2.2.2.2.2.2.2.1
  have hAA : ∀ q, AA g q → kA x q := fun q hq => hq.elim (a3 q) (fun h => C.2.2.2.2.2.2.2.2.2 q (Nat.le_trans a4.1 (by rw [a1]; exact h)))
  have hpre : ∀ U : State, U.heap = H → (ks x).WarmedH U.vm → PPX (kD x) g I J (.ref b :: As) (Value.ref b :: As).toArray U := fun U hU hW => ⟨rfl, by rw [hU]; exact a1, by rw [hU]; exact a2, KK.warm hW C.2.2.2.2.1, Zt.warm hW m7, by
    rw [hU]
    exact ((m8.moved hW.alike).kept (fun a h1 h2 => a4.2.1 a h1 h2)).narrow hAA⟩
  have hrun := vx_runV (Ts := TB) (As := As) (b := b) (C := Cn) ⟨C.1, C.2.1, C.2.2.2.2.2.1, C.2.2.1, C.2.2.2.1⟩ (hct (by rw [m1]; exact m3)) ⟨call_b C hm hl hf hlo, C.tb hi, C.tb hse⟩ ⟨PPX_blind, va_recv C.2.2.2.2.1.1 (one_P hE) f1 (q0 := 0) rfl, hpre⟩ (p := kp x) (e := ke x) (below := kbe x) (meth := kme x) (H := H) (locs := locs) (cells := cells) (slots := slots) (g := F0 (km x) pc ls stk) (rest := st) rfl hn (a5.1.trans C.2.2.2.2.2.2.1) hst (by simpa using hW) d ⟨by rw [hR]; exact hc2, by rw [hR]; exact hs2⟩
  intro T hT X
  rcases hrun T hT X with ⟨v, st₀, t, T', L, -, -, -, -, -, hq, -⟩ | ⟨q, st₀, t, T', L, E, ce, h0, X', hL, e1, e2, ⟨⟨g2, I2, J2, hpx, hz2, hW2, hA2⟩, hz, hk⟩, hce, hcv, hcl, st1⟩
  · exact hq.elim
  rw [h0] at hz hk
  have hS' : va_S (kA x) (ks x).heap T'.heap (locs ++ L) := ⟨Nat.le_trans a4.1 (by rw [e1]; exact hz), fun q h1 h2 => by
      rw [e1, hk q (Nat.lt_of_lt_of_le h1 a4.1) (fun z => h2 (hAA q z))]
      exact a4.2.1 q h1 h2, fun q hq => by
      rcases List.mem_append.mp hq with h | h
      · exact a4.2.2 q h
      · exact hAA _ (hL q h)⟩
  have hout : vx_W (kp x) (kl x) (ke x) (kR x) (ks x) (km x) (kar x) (kbe x) (kme x) (kc x) T'.heap (locs ++ L) (cells + rm2.cells) (slots + rm2.slots) (kQ x) (F0 (km x) pc ls st) q := by
    rw [m5]
    refine vx_out (fun z hz => (m6 z hz).elim) C.2.2.2.2.2.2.2.2.1 (by rw [e1]; exact hce) hcv hcl (fun t9 h9 _ => ?_) (fun z hz => by rw [← m4]; exact hS'.2.2 z hz) hc2 hs2
    refine ⟨⟨g2, I2, J2, hp E g2 I2 J2 hpx, by rw [h9, e1]; exact hz2, by rw [h9, e1, ← m2']; exact hW2, fun a ha => by rw [← m4]; exact hAA a (hA2 a ha)⟩, ?_⟩
    rw [← m4]
    exact hS'.F h9
  obtain ⟨t2, b1, b2⟩ := hout T' rfl X'
  exact ⟨t2, st1.trans b1, b2⟩
end VT
