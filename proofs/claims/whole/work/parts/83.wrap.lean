/-! the law's methods around the class's: with a table of handlers -/
theorem Ct.mono {l : Launch} {y : MethodName} {cc : ByteArray} {nL : Nat} {ret : Option FieldType} {rm : Room} {D : va_G} {av : List Value} {g : GM} {I : MI} {J : MJ} {Post Post2 : Option Value → GM → MI → MJ → Prop} (h : Ct l y cc nL ret rm D av g I J Post) (hp : ∀ v g I J, Post v g I J → Post2 v g I J) : Ct l y cc nL ret rm D av g I J Post2 := by
  unfold Ct Met at h ⊢
  refine MetFree.mono h (fun _ _ h => h) (fun _ _ _ _ _ h => h) (fun a s o t _ hq => ⟨?_, hq.2⟩)
  obtain ⟨⟨v, g2, I2, J2, e1, e2, e3⟩, e4⟩ := hq.1
  exact ⟨⟨v, g2, I2, J2, e1, hp v g2 I2 J2 e2, e3⟩, e4⟩
def CtW (l : Launch) (y : MethodName) (cc : ByteArray) (nL : Nat) (ret : Option FieldType) (hh : List (Nat × Nat × Nat × Nat)) (rm : Room) (D : va_G) (av : List Value) (g : GM) (I : MI) (J : MJ) (Post : Option Value → GM → MI → MJ → Prop) : Prop :=
  l.stackTraces = false → Met l y (.codeWith y cc nL ret hh :: TB) rm (PPX D g I J av) (QP D (AA g) Post) rm.cells rm.slots (AA g)
theorem Met_ofWH {l : Launch} {y : MethodName} {ws ws' : List Cond} {rm : Room} {Pc : Array Value → State → Prop} {Qc : Array Value → State → Outcome → State → Prop} {mc ms : Nat} {free : Addr → Prop} {cc : ByteArray} {maxL : Nat} {ret : Option FieldType} {hh : List (Nat × Nat × Nat × Nat)}
    (hy : plainName y.cls = true) (hw : ws = Cond.codeWith y cc maxL ret hh :: ws')
    (body : ∀ p e s m args below meth c s₁, BodyLoose p l y (headSpec ws rm) cc maxL ret e s m args below meth c s₁ → c.maxLocals = maxL → Pc args s →
      W p l e (headSpec ws rm).room s m args below meth c s.heap [] 0 0 (MQ below Qc args s mc ms free) (entryFrame m args maxL)) : Met l y ws rm Pc Qc mc ms free := by
  refine MetFree.of_bodyS (code := cc) (maxLocals := maxL) (ret := ret) hy ?_ ?_
  · intro args s m h hn
    obtain ⟨m9, meth, c, hn9, h1, h2, h3, h4, -, h5, h6, -⟩ := Cond.codeWith_spec (atoms_spec (ws := ws) h _ (by rw [hw]; exact List.mem_cons_self))
    cases hn.symm.trans hn9
    exact ⟨meth, c, h1, h2, h3, h4, h5, h6⟩
  · intro p e s m args below meth c s₁ B hml hP _
    have hh0 : s₁.heap = s.heap := by rw [B.state]; rfl
    obtain ⟨t, a1, o, b1, b2, b3⟩ := body p e s m args below meth c s₁ B hml hP s₁ hh0 (Stand.of_body B)
    exact ⟨t, o, a1, b1, b2, b3⟩
def MH (x : KX) (l : Launch) (hh : List (Nat × Nat × Nat × Nat)) : Prop := kl x = l ∧ l.stackTraces = false ∧ (kc x).exceptionTable.toList = tableOf hh ∧ Zt (ks x) ∧ Zh (kA x) (ks x) (ks x).heap
theorem CtW.of {l : Launch} {y : MethodName} {cc : ByteArray} {nL : Nat} {ret : Option FieldType} {hh : List (Nat × Nat × Nat × Nat)} {rm : Room} {D : va_G} {av : List Value} {g : GM} {I : MI} {J : MJ} {Post : Option Value → GM → MI → MJ → Prop} (hy : plainName y.cls = true) (hlen : (lg_sl av).length ≤ nL) (lv0 : List (Option Value)) (he : prs lv0 = lv_args 0 av)
    (body : ∀ x : KX, Cx x cc y.cls nL rm → Mx x l D g ret y.name rm Post → MH x l hh → V x g 0 0 I J 0 lv0 []) : CtW l y cc nL ret hh rm D av g I J Post := by
  intro hst
  refine Met_ofWH (cc := cc) (maxL := nL) (ret := ret) (hh := hh) hy rfl ?_
  intro p e s m args below meth c s₁ B hml hv
  obtain ⟨rfl, hsz, hP, hK, hZ, hH⟩ := hv
  have hts := atoms_spec (ws := Cond.codeWith y cc nL ret hh :: TB) B.pre
  have hown : s.vm.findClass y.cls = some m.cls := findClass_of_methodNamed B.named
  have hin := name_of_methodNamed B.named B.method
  have htab := vx_table (x := y) B (hts _ List.mem_cons_self)
  have hl := lv_entry av (n := nL) hlen
  rw [lg_entry_eq]
  generalize (lg_sl av ++ List.replicate (nL - (lg_sl av).length) Slot.unset).toArray = ls at hl ⊢
  have hA : ∀ q, s.heap.size ≤ q → AA g q := fun q h => Or.inr (by rw [← hsz]; exact h)
  refine body (p, l, e, rm, s, m, av.toArray, below, meth, c, nL, D, AA g, MQ below (QP D (AA g) Post) av.toArray s rm.cells rm.slots (AA g)) ⟨B.exec, B.bytes, hown, fun w hw => hts w (List.mem_cons_of_mem _ hw), hK, hml, rfl, rfl, B.notSynchronized, hA⟩ ⟨rfl, rfl, B.returns, rfl, rfl, hin.1⟩ ⟨rfl, hst, htab, hZ, hH⟩ s.heap [] ls hsz hP (fun a ha => Or.inl ha) va_S.rf ?_
  show lv_has ls nL (prs lv0)
  rw [he]
  exact hl
section VH
variable {x : KX} {cc : ByteArray} {own : String} {nL : Nat} {rm : Room} {g : GM} {cells slots : Nat} {I : MI} {J : MJ} {pc : Nat} {lv : List (Option Value)} {st : List Value}
variable {l : Launch} {Post : Option Value → GM → MI → MJ → Prop}
theorem PPX_at (C : Cx x cc own nL rm) (hZ : Zt (ks x)) (hH : Zh (kA x) (ks x) (ks x).heap) {H : Heap} {locs : List Loc} (a1 : H.size = g.2.2) (a2 : Wo (kD x) g.1 g.2.1 I J H) (a3 : ∀ a : Nat, (g.1 a).1 ≠ 99 → kA x a) (a4 : va_S (kA x) (ks x).heap H locs) (av : List Value) : ∀ U : State, U.heap = H → (ks x).WarmedH U.vm → PPX (kD x) g I J av av.toArray U := fun U hU hW => ⟨rfl, by rw [hU]; exact a1, by rw [hU]; exact a2, KK.warm hW C.2.2.2.2.1, Zt.warm hW hZ, by
    rw [hU]
    exact ((hH.moved hW.alike).kept (fun a h1 h2 => a4.2.1 a h1 h2)).narrow (fun q hq => hq.elim (a3 q) (fun h => C.2.2.2.2.2.2.2.2.2 q (Nat.le_trans a4.1 (by rw [a1]; exact h))))⟩
/-- a call that throws E0, caught by the row z of this method's table -/
theorem v_catV (C : Cx x cc own nL rm) {hh : List (Nat × Nat × Nat × Nat)} (M : MH x l hh) {PX : String → GM → MI → MJ → Prop} {E0 : String} {y : MethodName} {cc2 : ByteArray} {nL2 n idx b ci m2 N : Nat} {ret2 : Option FieldType} {rm2 : Room} {As stk : List Value} {Cn : String} {T : u_T} {ty : Nat → FieldType} (hct : CtT (kl x) y cc2 nL2 ret2 rm2 (kD x) (.ref b :: As) g I J PX) (hE : ∀ E g2 I2 J2, PX E g2 I2 J2 → E = E0) (hm : MW y cc2 nL2 ret2 n) (F : CF ci Cn T N ty) (hb : g.1 b = (ci, m2)) (hi : Cond.instanceMethod y ∈ TB) (hse : Cond.selects Cn y y ∈ TB) (hl : Cond.methodLink own idx y ∈ TB) (hn : As.length = n) (hst : stk = As.reverse ++ .ref b :: st) (hW : (st.map fun v => v.category).sum ≤ 8) (hf : rm2.frames + 1 ≤ rm.frames) (hlo : 8 + (nL2 + 11) + rm2.locals ≤ rm.locals) (hc2 : cells + rm2.cells ≤ rm.cells) (hs2 : slots + rm2.slots ≤ rm.slots) (d : decode cc pc = .ok (.invokevirtual idx, 3))
    (pre : List ExceptionTableEntry) (z : ExceptionTableEntry) (suf : List ExceptionTableEntry) (hsplit : tableOf hh = pre ++ z :: suf) (hpass : ∀ w ∈ pre, w.catchType ≠ 0 ∧ ∃ nm : String, Cond.classLink own w.catchType nm ∈ TB ∧ va_Nc E0 nm (ks x)) (hx : covers z pc = true) (h0 : z.catchType ≠ 0) (hlink : Cond.classLink own z.catchType E0 ∈ TB) (hcast : Cond.castable E0 E0 ∈ zws)
    (k : ∀ (q : Nat) (g2 : GM) (I2 : MI) (J2 : MJ), PX E0 g2 I2 J2 → V x g2 (cells + rm2.cells) (slots + rm2.slots) I2 J2 z.handlerPc lv [.ref q]) : V x g cells slots I J pc lv stk := fun H locs ls a1 a2 a3 a4 a5 => by
  obtain ⟨m1, m3, m6, m7, m8⟩ := M
  obtain ⟨f1, f2, f3, f4, f5, f6⟩ := F
  have hE9 := a2 b (sh_live hb (by omega))
  rw [cE_o hb f6] at hE9
  have hR := C.2.2.2.2.2.2.2.1
  have hAA : ∀ q, AA g q → kA x q := fun q hq => hq.elim (a3 q) (fun h => C.2.2.2.2.2.2.2.2.2 q (Nat.le_trans a4.1 (by rw [a1]; exact h)))
  have hrun := vx_runV (Ts := TB) (As := As) (b := b) (C := Cn) ⟨C.1, C.2.1, C.2.2.2.2.2.1, C.2.2.1, C.2.2.2.1⟩ (hct (by rw [m1]; exact m3)) ⟨call_b C hm hl hf hlo, C.tb hi, C.tb hse⟩ ⟨PPX_blind, va_recv C.2.2.2.2.1.1 (one_P hE9) f1 (q0 := 0) rfl, PPX_at C m7 m8 a1 a2 a3 a4 _⟩ (p := kp x) (e := ke x) (below := kbe x) (meth := kme x) (H := H) (locs := locs) (cells := cells) (slots := slots) (g := F0 (km x) pc ls stk) (rest := st) rfl hn (a5.1.trans C.2.2.2.2.2.2.1) hst (by simpa using hW) d ⟨by rw [hR]; exact hc2, by rw [hR]; exact hs2⟩
  intro T hT X
  rcases hrun T hT X with ⟨v, st₀, t, T', L, -, -, -, -, -, hq, -⟩ | ⟨q, st₀, t, T', L, E, ce, h9, X', hL, e1, e2, ⟨⟨g2, I2, J2, hpx, hz2, hW2, hA2⟩, hz, hk⟩, hce, hcv, hcl, st1⟩
  · exact hq.elim
  rw [h9] at hz hk
  have hEE := hE E g2 I2 J2 hpx
  subst hEE
  have hS' : va_S (kA x) (ks x).heap T'.heap (locs ++ L) := ⟨Nat.le_trans a4.1 (by rw [e1]; exact hz), fun q h1 h2 => by
      rw [e1, hk q (Nat.lt_of_lt_of_le h1 a4.1) (fun z => h2 (hAA q z))]
      exact a4.2.1 q h1 h2, fun q hq => by
      rcases List.mem_append.mp hq with h | h
      · exact a4.2.2 q h
      · exact hAA _ (hL q h)⟩
  have hcw : (Cond.castable E E).before (kar x) (ks x) = true := va_Nw.use (by rfl) (m7.1 _ hcast)
  have hout : vx_W (kp x) (kl x) (ke x) (kR x) (ks x) (km x) (kar x) (kbe x) (kme x) (kc x) T'.heap (locs ++ L) (cells + rm2.cells) (slots + rm2.slots) (kQ x) (F0 (km x) pc ls st) q := by
    refine vx_catch (own := own) (name := E) C.2.2.1 pre z suf (m6.trans hsplit) (fun w hw => Or.inr ?_) hx h0 (C.tb hlink) hcw (by rw [e1]; exact hce) hcv hcl ?_
    · obtain ⟨w1, nm, w2, w3⟩ := hpass w hw
      exact ⟨w1, nm, C.tb w2, w3⟩
    · exact k q g2 I2 J2 hpx T'.heap (locs ++ L) ls (by rw [e1]; exact hz2) (by rw [e1]; exact hW2) (fun a ha => hAA a (hA2 a ha)) hS' a5
  obtain ⟨t2, b1, b2⟩ := hout T' rfl X'
  exact ⟨t2, st1.trans b1, b2⟩
/-- a call of one of them -/
theorem v_callW (C : Cx x cc own nL rm) (hst9 : (kl x).stackTraces = false) (hZ : Zt (ks x)) (hH : Zh (kA x) (ks x) (ks x).heap) {hh : List (Nat × Nat × Nat × Nat)} {y : MethodName} {cc2 : ByteArray} {nL2 n idx : Nat} {ret2 : Option FieldType} {rm2 : Room} {As stk : List Value} (hct : CtW (kl x) y cc2 nL2 ret2 hh rm2 (kD x) As g I J Post) (hw : Cond.codeWith y cc2 nL2 ret2 hh ∈ TB) (hini : Cond.initialized y.cls ∈ TB) (hcl : y.cls ≠ "java/lang/invoke/MethodHandle" ∧ y.cls ≠ "java/lang/invoke/VarHandle") (hd : (parseMethodDescriptor y.desc).map (fun d => d.parameters.length) = some n) (hi : Cond.static y ∈ TB) (hl : Cond.methodLink own idx y ∈ TB) (hn : As.length = n) (hst : stk = As.reverse ++ st) (hW : (st.map fun v => v.category).sum ≤ 8) (hf : rm2.frames + 1 ≤ rm.frames) (hlo : 8 + (nL2 + 11) + rm2.locals ≤ rm.locals) (hc2 : cells + rm2.cells ≤ rm.cells) (hs2 : slots + rm2.slots ≤ rm.slots) (d : decode cc pc = .ok (.invokestatic idx, 3))
    (k : ∀ (v : Option Value) (g2 : GM) (I2 : MI) (J2 : MJ), Post v g2 I2 J2 → V x g2 (cells + rm2.cells) (slots + rm2.slots) I2 J2 (pc + 3) lv (v.toList ++ st)) : V x g cells slots I J pc lv stk := fun H locs ls a1 a2 a3 a4 a5 => by
  have hR := C.2.2.2.2.2.2.2.1
  refine call_go C (Qa := QP (kD x) (AA g) Post) (As := As.toArray) a1 a3 a4 a5 (vx_runSW (Ts := TB) (As := As) (hh := hh) ⟨C.1, C.2.1, C.2.2.2.2.2.1, C.2.2.1, C.2.2.2.1⟩ (hct hst9) ⟨⟨rfl, rfl, by rw [hR]; exact hf, by rw [hR]; exact hlo, ws_ok C hw, List.mem_cons_self⟩, C.tb hw, C.tb hini, hcl, fun sig h => ?_, C.tb hl, C.tb hi⟩ ⟨PPX_blind, PPX_at C hZ hH a1 a2 a3 a4 _⟩ rfl hn (a5.1.trans C.2.2.2.2.2.2.1) hst (by simpa using hW) d ⟨by rw [hR]; exact hc2, by rw [hR]; exact hs2⟩) k
  rw [h] at hd
  exact (Option.some.inj hd).symm
end VH
abbrev rmW : Room := rmA 9 200 30 11250
theorem lw13 : Cond.classLink RLa 13 xA ∈ TB := tb_t 332 (by decide +kernel) (by decide +kernel)
theorem lw19 : Cond.classLink RLa 19 xS ∈ TB := tb_t 460 (by decide +kernel) (by decide +kernel)
theorem lw55 : Cond.classLink RLa 55 xB ∈ TB := tb_t 628 (by decide +kernel) (by decide +kernel)
theorem w_object_r (l : Launch) (D : va_G) (g : GM) (I : MI) (J : MJ) {a o : Nat} {rm0 : Room} {Post0 : Option Value → GM → MI → MJ → Prop} (p0 : Int32) (a0 : g.1 a = (5, 0)) (hret : ∀ (l : Launch) (D : va_G), Ct l yLH_object bLH_object 3 (some .int) rm0 D [.ref a, .int p0] g I J Post0) (hP : ∀ v g2 I2 J2, Post0 v g2 I2 J2 → (∃ z, v = some (.int z)) ∧ g2.1 o = (11, 1)) (hf : rm0.frames + 1 ≤ 9) (hlo : 8 + (3 + 11) + rm0.locals ≤ 200) (hc : 0 + rm0.cells ≤ 30) (hs : 0 + rm0.slots ≤ 11250) : CtW l yLa_object bLa_object 4 (some .int) [(0, 9, 12, 13)] rmW D [.ref a, .int p0, .ref o] g I J (fun v g2 I2 J2 => v = some (.int 0) ∧ ∃ z J1, Post0 (some (.int z)) g2 I2 J1 ∧ J2 = s2 J1 o 0 (z.toInt64)) := by
  refine CtW.of (by decide) (ble rfl) [some (.ref a), some (.int p0), some (.ref o), none] rfl ?_
  intro x C M MM
  refine v_aload_n C 2 dLa_object_0 rfl rfl ?_
  refine v_iconst C 0 dLa_object_1 (by decide) ?_
  refine v_aload_n C 0 dLa_object_2 rfl rfl ?_
  refine v_iload_n C 1 dLa_object_3 rfl rfl ?_
  refine v_callV C (hret (kl x) (kD x)) mwLH_object cfLH (by assumption) w334 w335 w333 rfl rfl (ble rfl) hf hlo hc hs dLa_object_4 ?_
  intro v g2 I2 J2 hq
  obtain ⟨⟨z, rfl⟩, ho⟩ := hP v g2 I2 J2 hq
  refine v_i2l C dLa_object_7 ?_
  refine v_lastN C (q := (0)) (by assumption) (by first | rfl | (simp only [n16I, n2001I, nI_add, pk_mul, nI_1])) (by omega) (by decide) dLa_object_8 ?_
  refine v_goto C 15 dLa_object_9 (by decide) ?_
  refine v_iconst C 0 dLa_object_15 (by decide) ?_
  exact v_iret C M dLa_object_16 hc hs ⟨rfl, z, J2, hq, rfl⟩
theorem w_object_t1 (l : Launch) (D : va_G) (g : GM) (I : MI) (J : MJ) {a o : Nat} {rm0 : Room} {PX : String → GM → MI → MJ → Prop} (p0 : Int32) (a0 : g.1 a = (5, 0)) (ht : ∀ (l : Launch) (D : va_G), CtT l yLH_object bLH_object 3 (some .int) rm0 D [.ref a, .int p0] g I J PX) (hE : ∀ E g2 I2 J2, PX E g2 I2 J2 → E = xA) (hf : rm0.frames + 1 ≤ 9) (hlo : 8 + (3 + 11) + rm0.locals ≤ 200) (hc : 0 + rm0.cells ≤ 30) (hs : 0 + rm0.slots ≤ 11250) : CtW l yLa_object bLa_object 4 (some .int) [(0, 9, 12, 13)] rmW D [.ref a, .int p0, .ref o] g I J (fun v g2 I2 J2 => v = some (.int 1) ∧ PX xA g2 I2 J2) := by
  refine CtW.of (by decide) (ble rfl) [some (.ref a), some (.int p0), some (.ref o), none] rfl ?_
  intro x C M MM
  refine v_aload_n C 2 dLa_object_0 rfl rfl ?_
  refine v_iconst C 0 dLa_object_1 (by decide) ?_
  refine v_aload_n C 0 dLa_object_2 rfl rfl ?_
  refine v_iload_n C 1 dLa_object_3 rfl rfl ?_
  refine v_catV C MM (ht (kl x) (kD x)) hE mwLH_object cfLH (by assumption) w334 w335 w333 rfl rfl (ble rfl) hf hlo hc hs dLa_object_4 [] ⟨0, 9, 12, 13⟩ [] rfl (fun w hw => absurd hw List.not_mem_nil) (by decide) (by decide) lw13 (by decide +kernel) ?_
  intro q g2 I2 J2 hq
  refine v_astore_n C 3 dLa_object_12 rfl (ble rfl) rfl ?_
  refine v_iconst C 1 dLa_object_13 (by decide) ?_
  exact v_iret C M dLa_object_14 hc hs ⟨rfl, hq⟩
theorem w_call_r (l : Launch) (D : va_G) (g : GM) (I : MI) (J : MJ) {a o : Nat} {rm0 : Room} {Post0 : Option Value → GM → MI → MJ → Prop} (p0 p1 p2 p3 p4 : Int32) (a0 : g.1 a = (5, 0)) (hret : ∀ (l : Launch) (D : va_G), Ct l yLH_call bLH_call 8 (some .int) rm0 D [.ref a, .int p0, .int p1, .int p2, .int p3, .int p4] g I J Post0) (hP : ∀ v g2 I2 J2, Post0 v g2 I2 J2 → (∃ z, v = some (.int z)) ∧ g2.1 o = (11, 1)) (hf : rm0.frames + 1 ≤ 9) (hlo : 8 + (8 + 11) + rm0.locals ≤ 200) (hc : 0 + rm0.cells ≤ 30) (hs : 0 + rm0.slots ≤ 11250) : CtW l yLa_call bLa_call 8 (some .int) [(0, 16, 19, 13), (0, 16, 23, 19)] rmW D [.ref a, .int p0, .int p1, .int p2, .int p3, .int p4, .ref o] g I J (fun v g2 I2 J2 => v = some (.int 0) ∧ ∃ z J1, Post0 (some (.int z)) g2 I2 J1 ∧ J2 = s2 J1 o 0 (z.toInt64)) := by
  refine CtW.of (by decide) (ble rfl) [some (.ref a), some (.int p0), some (.int p1), some (.int p2), some (.int p3), some (.int p4), some (.ref o), none] rfl ?_
  intro x C M MM
  refine v_aload C dLa_call_0 rfl ?_
  refine v_iconst C 0 dLa_call_2 (by decide) ?_
  refine v_aload_n C 0 dLa_call_3 rfl rfl ?_
  refine v_iload_n C 1 dLa_call_4 rfl rfl ?_
  refine v_iload_n C 2 dLa_call_5 rfl rfl ?_
  refine v_iload_n C 3 dLa_call_6 rfl rfl ?_
  refine v_iload C dLa_call_7 rfl ?_
  refine v_iload C dLa_call_9 rfl ?_
  refine v_callV C (hret (kl x) (kD x)) mwLH_call cfLH (by assumption) w462 w463 w461 rfl rfl (ble rfl) hf hlo hc hs dLa_call_11 ?_
  intro v g2 I2 J2 hq
  obtain ⟨⟨z, rfl⟩, ho⟩ := hP v g2 I2 J2 hq
  refine v_i2l C dLa_call_14 ?_
  refine v_lastN C (q := (0)) (by assumption) (by first | rfl | (simp only [n16I, n2001I, nI_add, pk_mul, nI_1])) (by omega) (by decide) dLa_call_15 ?_
  refine v_goto C 27 dLa_call_16 (by decide) ?_
  refine v_iconst C 0 dLa_call_27 (by decide) ?_
  exact v_iret C M dLa_call_28 hc hs ⟨rfl, z, J2, hq, rfl⟩
theorem w_call_t1 (l : Launch) (D : va_G) (g : GM) (I : MI) (J : MJ) {a o : Nat} {rm0 : Room} {PX : String → GM → MI → MJ → Prop} (p0 p1 p2 p3 p4 : Int32) (a0 : g.1 a = (5, 0)) (ht : ∀ (l : Launch) (D : va_G), CtT l yLH_call bLH_call 8 (some .int) rm0 D [.ref a, .int p0, .int p1, .int p2, .int p3, .int p4] g I J PX) (hE : ∀ E g2 I2 J2, PX E g2 I2 J2 → E = xA) (hf : rm0.frames + 1 ≤ 9) (hlo : 8 + (8 + 11) + rm0.locals ≤ 200) (hc : 0 + rm0.cells ≤ 30) (hs : 0 + rm0.slots ≤ 11250) : CtW l yLa_call bLa_call 8 (some .int) [(0, 16, 19, 13), (0, 16, 23, 19)] rmW D [.ref a, .int p0, .int p1, .int p2, .int p3, .int p4, .ref o] g I J (fun v g2 I2 J2 => v = some (.int 1) ∧ PX xA g2 I2 J2) := by
  refine CtW.of (by decide) (ble rfl) [some (.ref a), some (.int p0), some (.int p1), some (.int p2), some (.int p3), some (.int p4), some (.ref o), none] rfl ?_
  intro x C M MM
  refine v_aload C dLa_call_0 rfl ?_
  refine v_iconst C 0 dLa_call_2 (by decide) ?_
  refine v_aload_n C 0 dLa_call_3 rfl rfl ?_
  refine v_iload_n C 1 dLa_call_4 rfl rfl ?_
  refine v_iload_n C 2 dLa_call_5 rfl rfl ?_
  refine v_iload_n C 3 dLa_call_6 rfl rfl ?_
  refine v_iload C dLa_call_7 rfl ?_
  refine v_iload C dLa_call_9 rfl ?_
  refine v_catV C MM (ht (kl x) (kD x)) hE mwLH_call cfLH (by assumption) w462 w463 w461 rfl rfl (ble rfl) hf hlo hc hs dLa_call_11 [] ⟨0, 16, 19, 13⟩ [⟨0, 16, 23, 19⟩] rfl (fun w hw => absurd hw List.not_mem_nil) (by decide) (by decide) lw13 (by decide +kernel) ?_
  intro q g2 I2 J2 hq
  refine v_astore C dLa_call_19 (ble rfl) rfl ?_
  refine v_iconst C 1 dLa_call_21 (by decide) ?_
  exact v_iret C M dLa_call_22 hc hs ⟨rfl, hq⟩
theorem w_call_t2 (l : Launch) (D : va_G) (g : GM) (I : MI) (J : MJ) {a o : Nat} {rm0 : Room} {PX : String → GM → MI → MJ → Prop} (p0 p1 p2 p3 p4 : Int32) (a0 : g.1 a = (5, 0)) (ht : ∀ (l : Launch) (D : va_G), CtT l yLH_call bLH_call 8 (some .int) rm0 D [.ref a, .int p0, .int p1, .int p2, .int p3, .int p4] g I J PX) (hE : ∀ E g2 I2 J2, PX E g2 I2 J2 → E = xS) (hf : rm0.frames + 1 ≤ 9) (hlo : 8 + (8 + 11) + rm0.locals ≤ 200) (hc : 0 + rm0.cells ≤ 30) (hs : 0 + rm0.slots ≤ 11250) : CtW l yLa_call bLa_call 8 (some .int) [(0, 16, 19, 13), (0, 16, 23, 19)] rmW D [.ref a, .int p0, .int p1, .int p2, .int p3, .int p4, .ref o] g I J (fun v g2 I2 J2 => v = some (.int 2) ∧ PX xS g2 I2 J2) := by
  refine CtW.of (by decide) (ble rfl) [some (.ref a), some (.int p0), some (.int p1), some (.int p2), some (.int p3), some (.int p4), some (.ref o), none] rfl ?_
  intro x C M MM
  refine v_aload C dLa_call_0 rfl ?_
  refine v_iconst C 0 dLa_call_2 (by decide) ?_
  refine v_aload_n C 0 dLa_call_3 rfl rfl ?_
  refine v_iload_n C 1 dLa_call_4 rfl rfl ?_
  refine v_iload_n C 2 dLa_call_5 rfl rfl ?_
  refine v_iload_n C 3 dLa_call_6 rfl rfl ?_
  refine v_iload C dLa_call_7 rfl ?_
  refine v_iload C dLa_call_9 rfl ?_
  refine v_catV C MM (ht (kl x) (kD x)) hE mwLH_call cfLH (by assumption) w462 w463 w461 rfl rfl (ble rfl) hf hlo hc hs dLa_call_11 [⟨0, 16, 19, 13⟩] ⟨0, 16, 23, 19⟩ [] rfl (fun w hw => by rw [List.mem_singleton] at hw; subst hw; exact ⟨by decide, _, lw13, MM.2.2.2.1.2.2.1⟩) (by decide) (by decide) lw19 (by decide +kernel) ?_
  intro q g2 I2 J2 hq
  refine v_astore C dLa_call_23 (ble rfl) rfl ?_
  refine v_iconst C 2 dLa_call_25 (by decide) ?_
  exact v_iret C M dLa_call_26 hc hs ⟨rfl, hq⟩
theorem w_back_r (l : Launch) (D : va_G) (g : GM) (I : MI) (J : MJ) {a : Nat} {rm0 : Room} {Post0 : Option Value → GM → MI → MJ → Prop} (p0 p1 : Int32) (a0 : g.1 a = (5, 0)) (hret : ∀ (l : Launch) (D : va_G), Ct l yLH_back bLH_back 4 none rm0 D [.ref a, .int p0, .int p1] g I J Post0) (hP : ∀ v g2 I2 J2, Post0 v g2 I2 J2 → v = none) (hf : rm0.frames + 1 ≤ 9) (hlo : 8 + (4 + 11) + rm0.locals ≤ 200) (hc : 0 + rm0.cells ≤ 30) (hs : 0 + rm0.slots ≤ 11250) : CtW l yLa_back bLa_back 4 (some .int) [(0, 6, 9, 13), (0, 6, 12, 19)] rmW D [.ref a, .int p0, .int p1] g I J (fun v g2 I2 J2 => v = some (.int 0) ∧ Post0 none g2 I2 J2) := by
  refine CtW.of (by decide) (ble rfl) [some (.ref a), some (.int p0), some (.int p1), none] rfl ?_
  intro x C M MM
  refine v_aload_n C 0 dLa_back_0 rfl rfl ?_
  refine v_iload_n C 1 dLa_back_1 rfl rfl ?_
  refine v_iload_n C 2 dLa_back_2 rfl rfl ?_
  refine v_callV C (hret (kl x) (kD x)) mwLH_back cfLH (by assumption) w511 w512 w510 rfl rfl (ble rfl) hf hlo hc hs dLa_back_3 ?_
  intro v g2 I2 J2 hq
  have hv := hP v g2 I2 J2 hq
  subst hv
  refine v_goto C 15 dLa_back_6 (by decide) ?_
  refine v_iconst C 0 dLa_back_15 (by decide) ?_
  exact v_iret C M dLa_back_16 hc hs ⟨rfl, hq⟩
theorem w_back_t1 (l : Launch) (D : va_G) (g : GM) (I : MI) (J : MJ) {a : Nat} {rm0 : Room} {PX : String → GM → MI → MJ → Prop} (p0 p1 : Int32) (a0 : g.1 a = (5, 0)) (ht : ∀ (l : Launch) (D : va_G), CtT l yLH_back bLH_back 4 none rm0 D [.ref a, .int p0, .int p1] g I J PX) (hE : ∀ E g2 I2 J2, PX E g2 I2 J2 → E = xA) (hf : rm0.frames + 1 ≤ 9) (hlo : 8 + (4 + 11) + rm0.locals ≤ 200) (hc : 0 + rm0.cells ≤ 30) (hs : 0 + rm0.slots ≤ 11250) : CtW l yLa_back bLa_back 4 (some .int) [(0, 6, 9, 13), (0, 6, 12, 19)] rmW D [.ref a, .int p0, .int p1] g I J (fun v g2 I2 J2 => v = some (.int 1) ∧ PX xA g2 I2 J2) := by
  refine CtW.of (by decide) (ble rfl) [some (.ref a), some (.int p0), some (.int p1), none] rfl ?_
  intro x C M MM
  refine v_aload_n C 0 dLa_back_0 rfl rfl ?_
  refine v_iload_n C 1 dLa_back_1 rfl rfl ?_
  refine v_iload_n C 2 dLa_back_2 rfl rfl ?_
  refine v_catV C MM (ht (kl x) (kD x)) hE mwLH_back cfLH (by assumption) w511 w512 w510 rfl rfl (ble rfl) hf hlo hc hs dLa_back_3 [] ⟨0, 6, 9, 13⟩ [⟨0, 6, 12, 19⟩] rfl (fun w hw => absurd hw List.not_mem_nil) (by decide) (by decide) lw13 (by decide +kernel) ?_
  intro q g2 I2 J2 hq
  refine v_astore_n C 3 dLa_back_9 rfl (ble rfl) rfl ?_
  refine v_iconst C 1 dLa_back_10 (by decide) ?_
  exact v_iret C M dLa_back_11 hc hs ⟨rfl, hq⟩
theorem w_back_t2 (l : Launch) (D : va_G) (g : GM) (I : MI) (J : MJ) {a : Nat} {rm0 : Room} {PX : String → GM → MI → MJ → Prop} (p0 p1 : Int32) (a0 : g.1 a = (5, 0)) (ht : ∀ (l : Launch) (D : va_G), CtT l yLH_back bLH_back 4 none rm0 D [.ref a, .int p0, .int p1] g I J PX) (hE : ∀ E g2 I2 J2, PX E g2 I2 J2 → E = xS) (hf : rm0.frames + 1 ≤ 9) (hlo : 8 + (4 + 11) + rm0.locals ≤ 200) (hc : 0 + rm0.cells ≤ 30) (hs : 0 + rm0.slots ≤ 11250) : CtW l yLa_back bLa_back 4 (some .int) [(0, 6, 9, 13), (0, 6, 12, 19)] rmW D [.ref a, .int p0, .int p1] g I J (fun v g2 I2 J2 => v = some (.int 2) ∧ PX xS g2 I2 J2) := by
  refine CtW.of (by decide) (ble rfl) [some (.ref a), some (.int p0), some (.int p1), none] rfl ?_
  intro x C M MM
  refine v_aload_n C 0 dLa_back_0 rfl rfl ?_
  refine v_iload_n C 1 dLa_back_1 rfl rfl ?_
  refine v_iload_n C 2 dLa_back_2 rfl rfl ?_
  refine v_catV C MM (ht (kl x) (kD x)) hE mwLH_back cfLH (by assumption) w511 w512 w510 rfl rfl (ble rfl) hf hlo hc hs dLa_back_3 [⟨0, 6, 9, 13⟩] ⟨0, 6, 12, 19⟩ [] rfl (fun w hw => by rw [List.mem_singleton] at hw; subst hw; exact ⟨by decide, _, lw13, MM.2.2.2.1.2.2.1⟩) (by decide) (by decide) lw19 (by decide +kernel) ?_
  intro q g2 I2 J2 hq
  refine v_astore_n C 3 dLa_back_12 rfl (ble rfl) rfl ?_
  refine v_iconst C 2 dLa_back_13 (by decide) ?_
  exact v_iret C M dLa_back_14 hc hs ⟨rfl, hq⟩
theorem w_lose_r (l : Launch) (D : va_G) (g : GM) (I : MI) (J : MJ) {a : Nat} {rm0 : Room} {Post0 : Option Value → GM → MI → MJ → Prop} (p0 : Int32) (a0 : g.1 a = (5, 0)) (hret : ∀ (l : Launch) (D : va_G), Ct l yLH_lose bLH_lose 2 none rm0 D [.ref a, .int p0] g I J Post0) (hP : ∀ v g2 I2 J2, Post0 v g2 I2 J2 → v = none) (hf : rm0.frames + 1 ≤ 9) (hlo : 8 + (2 + 11) + rm0.locals ≤ 200) (hc : 0 + rm0.cells ≤ 30) (hs : 0 + rm0.slots ≤ 11250) : CtW l yLa_lose bLa_lose 3 (some .int) [(0, 5, 8, 13), (0, 5, 11, 19)] rmW D [.ref a, .int p0] g I J (fun v g2 I2 J2 => v = some (.int 0) ∧ Post0 none g2 I2 J2) := by
  refine CtW.of (by decide) (ble rfl) [some (.ref a), some (.int p0), none] rfl ?_
  intro x C M MM
  refine v_aload_n C 0 dLa_lose_0 rfl rfl ?_
  refine v_iload_n C 1 dLa_lose_1 rfl rfl ?_
  refine v_callV C (hret (kl x) (kD x)) mwLH_lose cfLH (by assumption) w527 w528 w526 rfl rfl (ble rfl) hf hlo hc hs dLa_lose_2 ?_
  intro v g2 I2 J2 hq
  have hv := hP v g2 I2 J2 hq
  subst hv
  refine v_goto C 14 dLa_lose_5 (by decide) ?_
  refine v_iconst C 0 dLa_lose_14 (by decide) ?_
  exact v_iret C M dLa_lose_15 hc hs ⟨rfl, hq⟩
theorem w_lose_t1 (l : Launch) (D : va_G) (g : GM) (I : MI) (J : MJ) {a : Nat} {rm0 : Room} {PX : String → GM → MI → MJ → Prop} (p0 : Int32) (a0 : g.1 a = (5, 0)) (ht : ∀ (l : Launch) (D : va_G), CtT l yLH_lose bLH_lose 2 none rm0 D [.ref a, .int p0] g I J PX) (hE : ∀ E g2 I2 J2, PX E g2 I2 J2 → E = xA) (hf : rm0.frames + 1 ≤ 9) (hlo : 8 + (2 + 11) + rm0.locals ≤ 200) (hc : 0 + rm0.cells ≤ 30) (hs : 0 + rm0.slots ≤ 11250) : CtW l yLa_lose bLa_lose 3 (some .int) [(0, 5, 8, 13), (0, 5, 11, 19)] rmW D [.ref a, .int p0] g I J (fun v g2 I2 J2 => v = some (.int 1) ∧ PX xA g2 I2 J2) := by
  refine CtW.of (by decide) (ble rfl) [some (.ref a), some (.int p0), none] rfl ?_
  intro x C M MM
  refine v_aload_n C 0 dLa_lose_0 rfl rfl ?_
  refine v_iload_n C 1 dLa_lose_1 rfl rfl ?_
  refine v_catV C MM (ht (kl x) (kD x)) hE mwLH_lose cfLH (by assumption) w527 w528 w526 rfl rfl (ble rfl) hf hlo hc hs dLa_lose_2 [] ⟨0, 5, 8, 13⟩ [⟨0, 5, 11, 19⟩] rfl (fun w hw => absurd hw List.not_mem_nil) (by decide) (by decide) lw13 (by decide +kernel) ?_
  intro q g2 I2 J2 hq
  refine v_astore_n C 2 dLa_lose_8 rfl (ble rfl) rfl ?_
  refine v_iconst C 1 dLa_lose_9 (by decide) ?_
  exact v_iret C M dLa_lose_10 hc hs ⟨rfl, hq⟩
theorem w_lose_t2 (l : Launch) (D : va_G) (g : GM) (I : MI) (J : MJ) {a : Nat} {rm0 : Room} {PX : String → GM → MI → MJ → Prop} (p0 : Int32) (a0 : g.1 a = (5, 0)) (ht : ∀ (l : Launch) (D : va_G), CtT l yLH_lose bLH_lose 2 none rm0 D [.ref a, .int p0] g I J PX) (hE : ∀ E g2 I2 J2, PX E g2 I2 J2 → E = xS) (hf : rm0.frames + 1 ≤ 9) (hlo : 8 + (2 + 11) + rm0.locals ≤ 200) (hc : 0 + rm0.cells ≤ 30) (hs : 0 + rm0.slots ≤ 11250) : CtW l yLa_lose bLa_lose 3 (some .int) [(0, 5, 8, 13), (0, 5, 11, 19)] rmW D [.ref a, .int p0] g I J (fun v g2 I2 J2 => v = some (.int 2) ∧ PX xS g2 I2 J2) := by
  refine CtW.of (by decide) (ble rfl) [some (.ref a), some (.int p0), none] rfl ?_
  intro x C M MM
  refine v_aload_n C 0 dLa_lose_0 rfl rfl ?_
  refine v_iload_n C 1 dLa_lose_1 rfl rfl ?_
  refine v_catV C MM (ht (kl x) (kD x)) hE mwLH_lose cfLH (by assumption) w527 w528 w526 rfl rfl (ble rfl) hf hlo hc hs dLa_lose_2 [⟨0, 5, 8, 13⟩] ⟨0, 5, 11, 19⟩ [] rfl (fun w hw => by rw [List.mem_singleton] at hw; subst hw; exact ⟨by decide, _, lw13, MM.2.2.2.1.2.2.1⟩) (by decide) (by decide) lw19 (by decide +kernel) ?_
  intro q g2 I2 J2 hq
  refine v_astore_n C 2 dLa_lose_11 rfl (ble rfl) rfl ?_
  refine v_iconst C 2 dLa_lose_12 (by decide) ?_
  exact v_iret C M dLa_lose_13 hc hs ⟨rfl, hq⟩
theorem w_possibilities_r (l : Launch) (D : va_G) (g : GM) (I : MI) (J : MJ) {a o : Nat} {rm0 : Room} {Post0 : Option Value → GM → MI → MJ → Prop} (p0 : Int32) (a0 : g.1 a = (5, 0)) (hret : ∀ (l : Launch) (D : va_G), Ct l yLH_possibilities bLH_possibilities 2 (some .int) rm0 D [.ref a, .int p0] g I J Post0) (hP : ∀ v g2 I2 J2, Post0 v g2 I2 J2 → (∃ z, v = some (.int z)) ∧ g2.1 o = (11, 1)) (hf : rm0.frames + 1 ≤ 9) (hlo : 8 + (2 + 11) + rm0.locals ≤ 200) (hc : 0 + rm0.cells ≤ 30) (hs : 0 + rm0.slots ≤ 11250) : CtW l yLa_possibilities bLa_possibilities 4 (some .int) [(0, 9, 12, 13)] rmW D [.ref a, .int p0, .ref o] g I J (fun v g2 I2 J2 => v = some (.int 0) ∧ ∃ z J1, Post0 (some (.int z)) g2 I2 J1 ∧ J2 = s2 J1 o 0 (z.toInt64)) := by
  refine CtW.of (by decide) (ble rfl) [some (.ref a), some (.int p0), some (.ref o), none] rfl ?_
  intro x C M MM
  refine v_aload_n C 2 dLa_possibilities_0 rfl rfl ?_
  refine v_iconst C 0 dLa_possibilities_1 (by decide) ?_
  refine v_aload_n C 0 dLa_possibilities_2 rfl rfl ?_
  refine v_iload_n C 1 dLa_possibilities_3 rfl rfl ?_
  refine v_callV C (hret (kl x) (kD x)) mwLH_possibilities cfLH (by assumption) w534 w535 w533 rfl rfl (ble rfl) hf hlo hc hs dLa_possibilities_4 ?_
  intro v g2 I2 J2 hq
  obtain ⟨⟨z, rfl⟩, ho⟩ := hP v g2 I2 J2 hq
  refine v_i2l C dLa_possibilities_7 ?_
  refine v_lastN C (q := (0)) (by assumption) (by first | rfl | (simp only [n16I, n2001I, nI_add, pk_mul, nI_1])) (by omega) (by decide) dLa_possibilities_8 ?_
  refine v_goto C 15 dLa_possibilities_9 (by decide) ?_
  refine v_iconst C 0 dLa_possibilities_15 (by decide) ?_
  exact v_iret C M dLa_possibilities_16 hc hs ⟨rfl, z, J2, hq, rfl⟩
theorem w_possibilities_t1 (l : Launch) (D : va_G) (g : GM) (I : MI) (J : MJ) {a o : Nat} {rm0 : Room} {PX : String → GM → MI → MJ → Prop} (p0 : Int32) (a0 : g.1 a = (5, 0)) (ht : ∀ (l : Launch) (D : va_G), CtT l yLH_possibilities bLH_possibilities 2 (some .int) rm0 D [.ref a, .int p0] g I J PX) (hE : ∀ E g2 I2 J2, PX E g2 I2 J2 → E = xA) (hf : rm0.frames + 1 ≤ 9) (hlo : 8 + (2 + 11) + rm0.locals ≤ 200) (hc : 0 + rm0.cells ≤ 30) (hs : 0 + rm0.slots ≤ 11250) : CtW l yLa_possibilities bLa_possibilities 4 (some .int) [(0, 9, 12, 13)] rmW D [.ref a, .int p0, .ref o] g I J (fun v g2 I2 J2 => v = some (.int 1) ∧ PX xA g2 I2 J2) := by
  refine CtW.of (by decide) (ble rfl) [some (.ref a), some (.int p0), some (.ref o), none] rfl ?_
  intro x C M MM
  refine v_aload_n C 2 dLa_possibilities_0 rfl rfl ?_
  refine v_iconst C 0 dLa_possibilities_1 (by decide) ?_
  refine v_aload_n C 0 dLa_possibilities_2 rfl rfl ?_
  refine v_iload_n C 1 dLa_possibilities_3 rfl rfl ?_
  refine v_catV C MM (ht (kl x) (kD x)) hE mwLH_possibilities cfLH (by assumption) w534 w535 w533 rfl rfl (ble rfl) hf hlo hc hs dLa_possibilities_4 [] ⟨0, 9, 12, 13⟩ [] rfl (fun w hw => absurd hw List.not_mem_nil) (by decide) (by decide) lw13 (by decide +kernel) ?_
  intro q g2 I2 J2 hq
  refine v_astore_n C 3 dLa_possibilities_12 rfl (ble rfl) rfl ?_
  refine v_iconst C 1 dLa_possibilities_13 (by decide) ?_
  exact v_iret C M dLa_possibilities_14 hc hs ⟨rfl, hq⟩
theorem w_judge_r (l : Launch) (D : va_G) (g : GM) (I : MI) (J : MJ) {a o : Nat} {rm0 : Room} {Post0 : Option Value → GM → MI → MJ → Prop} (p0 : Int32) (a0 : g.1 a = (5, 0)) (hret : ∀ (l : Launch) (D : va_G), Ct l yLH_judge bLH_judge 2 (some .int) rm0 D [.ref a, .int p0] g I J Post0) (hP : ∀ v g2 I2 J2, Post0 v g2 I2 J2 → (∃ z, v = some (.int z)) ∧ g2.1 o = (11, 1)) (hf : rm0.frames + 1 ≤ 9) (hlo : 8 + (2 + 11) + rm0.locals ≤ 200) (hc : 0 + rm0.cells ≤ 30) (hs : 0 + rm0.slots ≤ 11250) : CtW l yLa_judge bLa_judge 4 (some .int) [(0, 9, 12, 13)] rmW D [.ref a, .int p0, .ref o] g I J (fun v g2 I2 J2 => v = some (.int 0) ∧ ∃ z J1, Post0 (some (.int z)) g2 I2 J1 ∧ J2 = s2 J1 o 0 (z.toInt64)) := by
  refine CtW.of (by decide) (ble rfl) [some (.ref a), some (.int p0), some (.ref o), none] rfl ?_
  intro x C M MM
  refine v_aload_n C 2 dLa_judge_0 rfl rfl ?_
  refine v_iconst C 0 dLa_judge_1 (by decide) ?_
  refine v_aload_n C 0 dLa_judge_2 rfl rfl ?_
  refine v_iload_n C 1 dLa_judge_3 rfl rfl ?_
  refine v_callV C (hret (kl x) (kD x)) mwLH_judge cfLH (by assumption) w545 w546 w544 rfl rfl (ble rfl) hf hlo hc hs dLa_judge_4 ?_
  intro v g2 I2 J2 hq
  obtain ⟨⟨z, rfl⟩, ho⟩ := hP v g2 I2 J2 hq
  refine v_i2l C dLa_judge_7 ?_
  refine v_lastN C (q := (0)) (by assumption) (by first | rfl | (simp only [n16I, n2001I, nI_add, pk_mul, nI_1])) (by omega) (by decide) dLa_judge_8 ?_
  refine v_goto C 15 dLa_judge_9 (by decide) ?_
  refine v_iconst C 0 dLa_judge_15 (by decide) ?_
  exact v_iret C M dLa_judge_16 hc hs ⟨rfl, z, J2, hq, rfl⟩
theorem w_judge_t1 (l : Launch) (D : va_G) (g : GM) (I : MI) (J : MJ) {a o : Nat} {rm0 : Room} {PX : String → GM → MI → MJ → Prop} (p0 : Int32) (a0 : g.1 a = (5, 0)) (ht : ∀ (l : Launch) (D : va_G), CtT l yLH_judge bLH_judge 2 (some .int) rm0 D [.ref a, .int p0] g I J PX) (hE : ∀ E g2 I2 J2, PX E g2 I2 J2 → E = xA) (hf : rm0.frames + 1 ≤ 9) (hlo : 8 + (2 + 11) + rm0.locals ≤ 200) (hc : 0 + rm0.cells ≤ 30) (hs : 0 + rm0.slots ≤ 11250) : CtW l yLa_judge bLa_judge 4 (some .int) [(0, 9, 12, 13)] rmW D [.ref a, .int p0, .ref o] g I J (fun v g2 I2 J2 => v = some (.int 1) ∧ PX xA g2 I2 J2) := by
  refine CtW.of (by decide) (ble rfl) [some (.ref a), some (.int p0), some (.ref o), none] rfl ?_
  intro x C M MM
  refine v_aload_n C 2 dLa_judge_0 rfl rfl ?_
  refine v_iconst C 0 dLa_judge_1 (by decide) ?_
  refine v_aload_n C 0 dLa_judge_2 rfl rfl ?_
  refine v_iload_n C 1 dLa_judge_3 rfl rfl ?_
  refine v_catV C MM (ht (kl x) (kD x)) hE mwLH_judge cfLH (by assumption) w545 w546 w544 rfl rfl (ble rfl) hf hlo hc hs dLa_judge_4 [] ⟨0, 9, 12, 13⟩ [] rfl (fun w hw => absurd hw List.not_mem_nil) (by decide) (by decide) lw13 (by decide +kernel) ?_
  intro q g2 I2 J2 hq
  refine v_astore_n C 3 dLa_judge_12 rfl (ble rfl) rfl ?_
  refine v_iconst C 1 dLa_judge_13 (by decide) ?_
  exact v_iret C M dLa_judge_14 hc hs ⟨rfl, hq⟩
theorem w_judgeOwn_r (l : Launch) (D : va_G) (g : GM) (I : MI) (J : MJ) {a o : Nat} {rm0 : Room} {Post0 : Option Value → GM → MI → MJ → Prop} (p0 : Int32) (a0 : g.1 a = (5, 0)) (hret : ∀ (l : Launch) (D : va_G), Ct l yLH_judgeOwn bLH_judgeOwn 3 (some .int) rm0 D [.ref a, .int p0] g I J Post0) (hP : ∀ v g2 I2 J2, Post0 v g2 I2 J2 → (∃ z, v = some (.int z)) ∧ g2.1 o = (11, 1)) (hf : rm0.frames + 1 ≤ 9) (hlo : 8 + (3 + 11) + rm0.locals ≤ 200) (hc : 0 + rm0.cells ≤ 30) (hs : 0 + rm0.slots ≤ 11250) : CtW l yLa_judgeOwn bLa_judgeOwn 4 (some .int) [(0, 9, 12, 13)] rmW D [.ref a, .int p0, .ref o] g I J (fun v g2 I2 J2 => v = some (.int 0) ∧ ∃ z J1, Post0 (some (.int z)) g2 I2 J1 ∧ J2 = s2 J1 o 0 (z.toInt64)) := by
  refine CtW.of (by decide) (ble rfl) [some (.ref a), some (.int p0), some (.ref o), none] rfl ?_
  intro x C M MM
  refine v_aload_n C 2 dLa_judgeOwn_0 rfl rfl ?_
  refine v_iconst C 0 dLa_judgeOwn_1 (by decide) ?_
  refine v_aload_n C 0 dLa_judgeOwn_2 rfl rfl ?_
  refine v_iload_n C 1 dLa_judgeOwn_3 rfl rfl ?_
  refine v_callV C (hret (kl x) (kD x)) mwLH_judgeOwn cfLH (by assumption) w552 w553 w551 rfl rfl (ble rfl) hf hlo hc hs dLa_judgeOwn_4 ?_
  intro v g2 I2 J2 hq
  obtain ⟨⟨z, rfl⟩, ho⟩ := hP v g2 I2 J2 hq
  refine v_i2l C dLa_judgeOwn_7 ?_
  refine v_lastN C (q := (0)) (by assumption) (by first | rfl | (simp only [n16I, n2001I, nI_add, pk_mul, nI_1])) (by omega) (by decide) dLa_judgeOwn_8 ?_
  refine v_goto C 15 dLa_judgeOwn_9 (by decide) ?_
  refine v_iconst C 0 dLa_judgeOwn_15 (by decide) ?_
  exact v_iret C M dLa_judgeOwn_16 hc hs ⟨rfl, z, J2, hq, rfl⟩
theorem w_judgeOwn_t1 (l : Launch) (D : va_G) (g : GM) (I : MI) (J : MJ) {a o : Nat} {rm0 : Room} {PX : String → GM → MI → MJ → Prop} (p0 : Int32) (a0 : g.1 a = (5, 0)) (ht : ∀ (l : Launch) (D : va_G), CtT l yLH_judgeOwn bLH_judgeOwn 3 (some .int) rm0 D [.ref a, .int p0] g I J PX) (hE : ∀ E g2 I2 J2, PX E g2 I2 J2 → E = xA) (hf : rm0.frames + 1 ≤ 9) (hlo : 8 + (3 + 11) + rm0.locals ≤ 200) (hc : 0 + rm0.cells ≤ 30) (hs : 0 + rm0.slots ≤ 11250) : CtW l yLa_judgeOwn bLa_judgeOwn 4 (some .int) [(0, 9, 12, 13)] rmW D [.ref a, .int p0, .ref o] g I J (fun v g2 I2 J2 => v = some (.int 1) ∧ PX xA g2 I2 J2) := by
  refine CtW.of (by decide) (ble rfl) [some (.ref a), some (.int p0), some (.ref o), none] rfl ?_
  intro x C M MM
  refine v_aload_n C 2 dLa_judgeOwn_0 rfl rfl ?_
  refine v_iconst C 0 dLa_judgeOwn_1 (by decide) ?_
  refine v_aload_n C 0 dLa_judgeOwn_2 rfl rfl ?_
  refine v_iload_n C 1 dLa_judgeOwn_3 rfl rfl ?_
  refine v_catV C MM (ht (kl x) (kD x)) hE mwLH_judgeOwn cfLH (by assumption) w552 w553 w551 rfl rfl (ble rfl) hf hlo hc hs dLa_judgeOwn_4 [] ⟨0, 9, 12, 13⟩ [] rfl (fun w hw => absurd hw List.not_mem_nil) (by decide) (by decide) lw13 (by decide +kernel) ?_
  intro q g2 I2 J2 hq
  refine v_astore_n C 3 dLa_judgeOwn_12 rfl (ble rfl) rfl ?_
  refine v_iconst C 1 dLa_judgeOwn_13 (by decide) ?_
  exact v_iret C M dLa_judgeOwn_14 hc hs ⟨rfl, hq⟩
theorem w_ways_r (l : Launch) (D : va_G) (g : GM) (I : MI) (J : MJ) {a o : Nat} {rm0 : Room} {Post0 : Option Value → GM → MI → MJ → Prop} (p0 : Int32) (a0 : g.1 a = (5, 0)) (hret : ∀ (l : Launch) (D : va_G), Ct l yLH_ways bLH_ways 2 (some .long) rm0 D [.ref a, .int p0] g I J Post0) (hP : ∀ v g2 I2 J2, Post0 v g2 I2 J2 → (∃ z, v = some (.long z)) ∧ g2.1 o = (11, 1)) (hf : rm0.frames + 1 ≤ 9) (hlo : 8 + (2 + 11) + rm0.locals ≤ 200) (hc : 0 + rm0.cells ≤ 30) (hs : 0 + rm0.slots ≤ 11250) : CtW l yLa_ways bLa_ways 4 (some .int) [(0, 8, 11, 13)] rmW D [.ref a, .int p0, .ref o] g I J (fun v g2 I2 J2 => v = some (.int 0) ∧ ∃ z J1, Post0 (some (.long z)) g2 I2 J1 ∧ J2 = s2 J1 o 0 (z)) := by
  refine CtW.of (by decide) (ble rfl) [some (.ref a), some (.int p0), some (.ref o), none] rfl ?_
  intro x C M MM
  refine v_aload_n C 2 dLa_ways_0 rfl rfl ?_
  refine v_iconst C 0 dLa_ways_1 (by decide) ?_
  refine v_aload_n C 0 dLa_ways_2 rfl rfl ?_
  refine v_iload_n C 1 dLa_ways_3 rfl rfl ?_
  refine v_callV C (hret (kl x) (kD x)) mwLH_ways cfLH (by assumption) w563 w564 w562 rfl rfl (ble rfl) hf hlo hc hs dLa_ways_4 ?_
  intro v g2 I2 J2 hq
  obtain ⟨⟨z, rfl⟩, ho⟩ := hP v g2 I2 J2 hq
  refine v_lastN C (q := (0)) (by assumption) (by first | rfl | (simp only [n16I, n2001I, nI_add, pk_mul, nI_1])) (by omega) (by decide) dLa_ways_7 ?_
  refine v_goto C 14 dLa_ways_8 (by decide) ?_
  refine v_iconst C 0 dLa_ways_14 (by decide) ?_
  exact v_iret C M dLa_ways_15 hc hs ⟨rfl, z, J2, hq, rfl⟩
theorem w_ways_t1 (l : Launch) (D : va_G) (g : GM) (I : MI) (J : MJ) {a o : Nat} {rm0 : Room} {PX : String → GM → MI → MJ → Prop} (p0 : Int32) (a0 : g.1 a = (5, 0)) (ht : ∀ (l : Launch) (D : va_G), CtT l yLH_ways bLH_ways 2 (some .long) rm0 D [.ref a, .int p0] g I J PX) (hE : ∀ E g2 I2 J2, PX E g2 I2 J2 → E = xA) (hf : rm0.frames + 1 ≤ 9) (hlo : 8 + (2 + 11) + rm0.locals ≤ 200) (hc : 0 + rm0.cells ≤ 30) (hs : 0 + rm0.slots ≤ 11250) : CtW l yLa_ways bLa_ways 4 (some .int) [(0, 8, 11, 13)] rmW D [.ref a, .int p0, .ref o] g I J (fun v g2 I2 J2 => v = some (.int 1) ∧ PX xA g2 I2 J2) := by
  refine CtW.of (by decide) (ble rfl) [some (.ref a), some (.int p0), some (.ref o), none] rfl ?_
  intro x C M MM
  refine v_aload_n C 2 dLa_ways_0 rfl rfl ?_
  refine v_iconst C 0 dLa_ways_1 (by decide) ?_
  refine v_aload_n C 0 dLa_ways_2 rfl rfl ?_
  refine v_iload_n C 1 dLa_ways_3 rfl rfl ?_
  refine v_catV C MM (ht (kl x) (kD x)) hE mwLH_ways cfLH (by assumption) w563 w564 w562 rfl rfl (ble rfl) hf hlo hc hs dLa_ways_4 [] ⟨0, 8, 11, 13⟩ [] rfl (fun w hw => absurd hw List.not_mem_nil) (by decide) (by decide) lw13 (by decide +kernel) ?_
  intro q g2 I2 J2 hq
  refine v_astore_n C 3 dLa_ways_11 rfl (ble rfl) rfl ?_
  refine v_iconst C 1 dLa_ways_12 (by decide) ?_
  exact v_iret C M dLa_ways_13 hc hs ⟨rfl, hq⟩
theorem w_lasts_r (l : Launch) (D : va_G) (g : GM) (I : MI) (J : MJ) {a o : Nat} {rm0 : Room} {Post0 : Option Value → GM → MI → MJ → Prop} (p0 : Int32) (a0 : g.1 a = (5, 0)) (hret : ∀ (l : Launch) (D : va_G), Ct l yLH_lasts bLH_lasts 2 (some .int) rm0 D [.ref a, .int p0] g I J Post0) (hP : ∀ v g2 I2 J2, Post0 v g2 I2 J2 → (∃ z, v = some (.int z)) ∧ g2.1 o = (11, 1)) (hf : rm0.frames + 1 ≤ 9) (hlo : 8 + (2 + 11) + rm0.locals ≤ 200) (hc : 0 + rm0.cells ≤ 30) (hs : 0 + rm0.slots ≤ 11250) : CtW l yLa_lasts bLa_lasts 4 (some .int) [(0, 9, 12, 13)] rmW D [.ref a, .int p0, .ref o] g I J (fun v g2 I2 J2 => v = some (.int 0) ∧ ∃ z J1, Post0 (some (.int z)) g2 I2 J1 ∧ J2 = s2 J1 o 0 (z.toInt64)) := by
  refine CtW.of (by decide) (ble rfl) [some (.ref a), some (.int p0), some (.ref o), none] rfl ?_
  intro x C M MM
  refine v_aload_n C 2 dLa_lasts_0 rfl rfl ?_
  refine v_iconst C 0 dLa_lasts_1 (by decide) ?_
  refine v_aload_n C 0 dLa_lasts_2 rfl rfl ?_
  refine v_iload_n C 1 dLa_lasts_3 rfl rfl ?_
  refine v_callV C (hret (kl x) (kD x)) mwLH_lasts cfLH (by assumption) w570 w571 w569 rfl rfl (ble rfl) hf hlo hc hs dLa_lasts_4 ?_
  intro v g2 I2 J2 hq
  obtain ⟨⟨z, rfl⟩, ho⟩ := hP v g2 I2 J2 hq
  refine v_i2l C dLa_lasts_7 ?_
  refine v_lastN C (q := (0)) (by assumption) (by first | rfl | (simp only [n16I, n2001I, nI_add, pk_mul, nI_1])) (by omega) (by decide) dLa_lasts_8 ?_
  refine v_goto C 15 dLa_lasts_9 (by decide) ?_
  refine v_iconst C 0 dLa_lasts_15 (by decide) ?_
  exact v_iret C M dLa_lasts_16 hc hs ⟨rfl, z, J2, hq, rfl⟩
theorem w_lasts_t1 (l : Launch) (D : va_G) (g : GM) (I : MI) (J : MJ) {a o : Nat} {rm0 : Room} {PX : String → GM → MI → MJ → Prop} (p0 : Int32) (a0 : g.1 a = (5, 0)) (ht : ∀ (l : Launch) (D : va_G), CtT l yLH_lasts bLH_lasts 2 (some .int) rm0 D [.ref a, .int p0] g I J PX) (hE : ∀ E g2 I2 J2, PX E g2 I2 J2 → E = xA) (hf : rm0.frames + 1 ≤ 9) (hlo : 8 + (2 + 11) + rm0.locals ≤ 200) (hc : 0 + rm0.cells ≤ 30) (hs : 0 + rm0.slots ≤ 11250) : CtW l yLa_lasts bLa_lasts 4 (some .int) [(0, 9, 12, 13)] rmW D [.ref a, .int p0, .ref o] g I J (fun v g2 I2 J2 => v = some (.int 1) ∧ PX xA g2 I2 J2) := by
  refine CtW.of (by decide) (ble rfl) [some (.ref a), some (.int p0), some (.ref o), none] rfl ?_
  intro x C M MM
  refine v_aload_n C 2 dLa_lasts_0 rfl rfl ?_
  refine v_iconst C 0 dLa_lasts_1 (by decide) ?_
  refine v_aload_n C 0 dLa_lasts_2 rfl rfl ?_
  refine v_iload_n C 1 dLa_lasts_3 rfl rfl ?_
  refine v_catV C MM (ht (kl x) (kD x)) hE mwLH_lasts cfLH (by assumption) w570 w571 w569 rfl rfl (ble rfl) hf hlo hc hs dLa_lasts_4 [] ⟨0, 9, 12, 13⟩ [] rfl (fun w hw => absurd hw List.not_mem_nil) (by decide) (by decide) lw13 (by decide +kernel) ?_
  intro q g2 I2 J2 hq
  refine v_astore_n C 3 dLa_lasts_12 rfl (ble rfl) rfl ?_
  refine v_iconst C 1 dLa_lasts_13 (by decide) ?_
  exact v_iret C M dLa_lasts_14 hc hs ⟨rfl, hq⟩
theorem w_broken_r (l : Launch) (D : va_G) (g : GM) (I : MI) (J : MJ) {a o : Nat} {rm0 : Room} {Post0 : Option Value → GM → MI → MJ → Prop} (p0 : Int32) (a0 : g.1 a = (5, 0)) (hret : ∀ (l : Launch) (D : va_G), Ct l yLH_broken bLH_broken 3 (some .int) rm0 D [.ref a, .int p0] g I J Post0) (hP : ∀ v g2 I2 J2, Post0 v g2 I2 J2 → (∃ z, v = some (.int z)) ∧ g2.1 o = (11, 1)) (hf : rm0.frames + 1 ≤ 9) (hlo : 8 + (3 + 11) + rm0.locals ≤ 200) (hc : 0 + rm0.cells ≤ 30) (hs : 0 + rm0.slots ≤ 11250) : CtW l yLa_broken bLa_broken 4 (some .int) [(0, 9, 12, 13)] rmW D [.ref a, .int p0, .ref o] g I J (fun v g2 I2 J2 => v = some (.int 0) ∧ ∃ z J1, Post0 (some (.int z)) g2 I2 J1 ∧ J2 = s2 J1 o 0 (z.toInt64)) := by
  refine CtW.of (by decide) (ble rfl) [some (.ref a), some (.int p0), some (.ref o), none] rfl ?_
  intro x C M MM
  refine v_aload_n C 2 dLa_broken_0 rfl rfl ?_
  refine v_iconst C 0 dLa_broken_1 (by decide) ?_
  refine v_aload_n C 0 dLa_broken_2 rfl rfl ?_
  refine v_iload_n C 1 dLa_broken_3 rfl rfl ?_
  refine v_callV C (hret (kl x) (kD x)) mwLH_broken cfLH (by assumption) w577 w578 w576 rfl rfl (ble rfl) hf hlo hc hs dLa_broken_4 ?_
  intro v g2 I2 J2 hq
  obtain ⟨⟨z, rfl⟩, ho⟩ := hP v g2 I2 J2 hq
  refine v_i2l C dLa_broken_7 ?_
  refine v_lastN C (q := (0)) (by assumption) (by first | rfl | (simp only [n16I, n2001I, nI_add, pk_mul, nI_1])) (by omega) (by decide) dLa_broken_8 ?_
  refine v_goto C 15 dLa_broken_9 (by decide) ?_
  refine v_iconst C 0 dLa_broken_15 (by decide) ?_
  exact v_iret C M dLa_broken_16 hc hs ⟨rfl, z, J2, hq, rfl⟩
theorem w_broken_t1 (l : Launch) (D : va_G) (g : GM) (I : MI) (J : MJ) {a o : Nat} {rm0 : Room} {PX : String → GM → MI → MJ → Prop} (p0 : Int32) (a0 : g.1 a = (5, 0)) (ht : ∀ (l : Launch) (D : va_G), CtT l yLH_broken bLH_broken 3 (some .int) rm0 D [.ref a, .int p0] g I J PX) (hE : ∀ E g2 I2 J2, PX E g2 I2 J2 → E = xA) (hf : rm0.frames + 1 ≤ 9) (hlo : 8 + (3 + 11) + rm0.locals ≤ 200) (hc : 0 + rm0.cells ≤ 30) (hs : 0 + rm0.slots ≤ 11250) : CtW l yLa_broken bLa_broken 4 (some .int) [(0, 9, 12, 13)] rmW D [.ref a, .int p0, .ref o] g I J (fun v g2 I2 J2 => v = some (.int 1) ∧ PX xA g2 I2 J2) := by
  refine CtW.of (by decide) (ble rfl) [some (.ref a), some (.int p0), some (.ref o), none] rfl ?_
  intro x C M MM
  refine v_aload_n C 2 dLa_broken_0 rfl rfl ?_
  refine v_iconst C 0 dLa_broken_1 (by decide) ?_
  refine v_aload_n C 0 dLa_broken_2 rfl rfl ?_
  refine v_iload_n C 1 dLa_broken_3 rfl rfl ?_
  refine v_catV C MM (ht (kl x) (kD x)) hE mwLH_broken cfLH (by assumption) w577 w578 w576 rfl rfl (ble rfl) hf hlo hc hs dLa_broken_4 [] ⟨0, 9, 12, 13⟩ [] rfl (fun w hw => absurd hw List.not_mem_nil) (by decide) (by decide) lw13 (by decide +kernel) ?_
  intro q g2 I2 J2 hq
  refine v_astore_n C 3 dLa_broken_12 rfl (ble rfl) rfl ?_
  refine v_iconst C 1 dLa_broken_13 (by decide) ?_
  exact v_iret C M dLa_broken_14 hc hs ⟨rfl, hq⟩
theorem w_length_r (l : Launch) (D : va_G) (g : GM) (I : MI) (J : MJ) {a o : Nat} {rm0 : Room} {Post0 : Option Value → GM → MI → MJ → Prop} (a0 : g.1 a = (5, 0)) (hret : ∀ (l : Launch) (D : va_G), Ct l yLH_length bLH_length 1 (some .int) rm0 D [.ref a] g I J Post0) (hP : ∀ v g2 I2 J2, Post0 v g2 I2 J2 → (∃ z, v = some (.int z)) ∧ g2.1 o = (11, 1)) (hf : rm0.frames + 1 ≤ 9) (hlo : 8 + (1 + 11) + rm0.locals ≤ 200) (hc : 0 + rm0.cells ≤ 30) (hs : 0 + rm0.slots ≤ 11250) : CtW l yLa_length bLa_length 3 (some .int) [(0, 8, 11, 19)] rmW D [.ref a, .ref o] g I J (fun v g2 I2 J2 => v = some (.int 0) ∧ ∃ z J1, Post0 (some (.int z)) g2 I2 J1 ∧ J2 = s2 J1 o 0 (z.toInt64)) := by
  refine CtW.of (by decide) (ble rfl) [some (.ref a), some (.ref o), none] rfl ?_
  intro x C M MM
  refine v_aload_n C 1 dLa_length_0 rfl rfl ?_
  refine v_iconst C 0 dLa_length_1 (by decide) ?_
  refine v_aload_n C 0 dLa_length_2 rfl rfl ?_
  refine v_callV C (hret (kl x) (kD x)) mwLH_length cfLH (by assumption) w589 w590 w588 rfl rfl (ble rfl) hf hlo hc hs dLa_length_3 ?_
  intro v g2 I2 J2 hq
  obtain ⟨⟨z, rfl⟩, ho⟩ := hP v g2 I2 J2 hq
  refine v_i2l C dLa_length_6 ?_
  refine v_lastN C (q := (0)) (by assumption) (by first | rfl | (simp only [n16I, n2001I, nI_add, pk_mul, nI_1])) (by omega) (by decide) dLa_length_7 ?_
  refine v_goto C 14 dLa_length_8 (by decide) ?_
  refine v_iconst C 0 dLa_length_14 (by decide) ?_
  exact v_iret C M dLa_length_15 hc hs ⟨rfl, z, J2, hq, rfl⟩
theorem w_length_t1 (l : Launch) (D : va_G) (g : GM) (I : MI) (J : MJ) {a o : Nat} {rm0 : Room} {PX : String → GM → MI → MJ → Prop} (a0 : g.1 a = (5, 0)) (ht : ∀ (l : Launch) (D : va_G), CtT l yLH_length bLH_length 1 (some .int) rm0 D [.ref a] g I J PX) (hE : ∀ E g2 I2 J2, PX E g2 I2 J2 → E = xS) (hf : rm0.frames + 1 ≤ 9) (hlo : 8 + (1 + 11) + rm0.locals ≤ 200) (hc : 0 + rm0.cells ≤ 30) (hs : 0 + rm0.slots ≤ 11250) : CtW l yLa_length bLa_length 3 (some .int) [(0, 8, 11, 19)] rmW D [.ref a, .ref o] g I J (fun v g2 I2 J2 => v = some (.int 1) ∧ PX xS g2 I2 J2) := by
  refine CtW.of (by decide) (ble rfl) [some (.ref a), some (.ref o), none] rfl ?_
  intro x C M MM
  refine v_aload_n C 1 dLa_length_0 rfl rfl ?_
  refine v_iconst C 0 dLa_length_1 (by decide) ?_
  refine v_aload_n C 0 dLa_length_2 rfl rfl ?_
  refine v_catV C MM (ht (kl x) (kD x)) hE mwLH_length cfLH (by assumption) w589 w590 w588 rfl rfl (ble rfl) hf hlo hc hs dLa_length_3 [] ⟨0, 8, 11, 19⟩ [] rfl (fun w hw => absurd hw List.not_mem_nil) (by decide) (by decide) lw19 (by decide +kernel) ?_
  intro q g2 I2 J2 hq
  refine v_astore_n C 2 dLa_length_11 rfl (ble rfl) rfl ?_
  refine v_iconst C 1 dLa_length_12 (by decide) ?_
  exact v_iret C M dLa_length_13 hc hs ⟨rfl, hq⟩
theorem w_row_r (l : Launch) (D : va_G) (g : GM) (I : MI) (J : MJ) {a o : Nat} {rm0 : Room} {Post0 : Option Value → GM → MI → MJ → Prop} (p0 : Int32) (a0 : g.1 a = (5, 0)) (hret : ∀ (l : Launch) (D : va_G), Ct l yLH_row bLH_row 2 (some .int) rm0 D [.ref a, .int p0] g I J Post0) (hP : ∀ v g2 I2 J2, Post0 v g2 I2 J2 → (∃ z, v = some (.int z)) ∧ g2.1 o = (11, 1)) (hf : rm0.frames + 1 ≤ 9) (hlo : 8 + (2 + 11) + rm0.locals ≤ 200) (hc : 0 + rm0.cells ≤ 30) (hs : 0 + rm0.slots ≤ 11250) : CtW l yLa_row bLa_row 4 (some .int) [(0, 9, 12, 19), (0, 9, 15, 55)] rmW D [.ref a, .int p0, .ref o] g I J (fun v g2 I2 J2 => v = some (.int 0) ∧ ∃ z J1, Post0 (some (.int z)) g2 I2 J1 ∧ J2 = s2 J1 o 0 (z.toInt64)) := by
  refine CtW.of (by decide) (ble rfl) [some (.ref a), some (.int p0), some (.ref o), none] rfl ?_
  intro x C M MM
  refine v_aload_n C 2 dLa_row_0 rfl rfl ?_
  refine v_iconst C 0 dLa_row_1 (by decide) ?_
  refine v_aload_n C 0 dLa_row_2 rfl rfl ?_
  refine v_iload_n C 1 dLa_row_3 rfl rfl ?_
  refine v_callV C (hret (kl x) (kD x)) mwLH_row cfLH (by assumption) w630 w631 w629 rfl rfl (ble rfl) hf hlo hc hs dLa_row_4 ?_
  intro v g2 I2 J2 hq
  obtain ⟨⟨z, rfl⟩, ho⟩ := hP v g2 I2 J2 hq
  refine v_i2l C dLa_row_7 ?_
  refine v_lastN C (q := (0)) (by assumption) (by first | rfl | (simp only [n16I, n2001I, nI_add, pk_mul, nI_1])) (by omega) (by decide) dLa_row_8 ?_
  refine v_goto C 18 dLa_row_9 (by decide) ?_
  refine v_iconst C 0 dLa_row_18 (by decide) ?_
  exact v_iret C M dLa_row_19 hc hs ⟨rfl, z, J2, hq, rfl⟩
theorem w_row_t1 (l : Launch) (D : va_G) (g : GM) (I : MI) (J : MJ) {a o : Nat} {rm0 : Room} {PX : String → GM → MI → MJ → Prop} (p0 : Int32) (a0 : g.1 a = (5, 0)) (ht : ∀ (l : Launch) (D : va_G), CtT l yLH_row bLH_row 2 (some .int) rm0 D [.ref a, .int p0] g I J PX) (hE : ∀ E g2 I2 J2, PX E g2 I2 J2 → E = xS) (hf : rm0.frames + 1 ≤ 9) (hlo : 8 + (2 + 11) + rm0.locals ≤ 200) (hc : 0 + rm0.cells ≤ 30) (hs : 0 + rm0.slots ≤ 11250) : CtW l yLa_row bLa_row 4 (some .int) [(0, 9, 12, 19), (0, 9, 15, 55)] rmW D [.ref a, .int p0, .ref o] g I J (fun v g2 I2 J2 => v = some (.int 1) ∧ PX xS g2 I2 J2) := by
  refine CtW.of (by decide) (ble rfl) [some (.ref a), some (.int p0), some (.ref o), none] rfl ?_
  intro x C M MM
  refine v_aload_n C 2 dLa_row_0 rfl rfl ?_
  refine v_iconst C 0 dLa_row_1 (by decide) ?_
  refine v_aload_n C 0 dLa_row_2 rfl rfl ?_
  refine v_iload_n C 1 dLa_row_3 rfl rfl ?_
  refine v_catV C MM (ht (kl x) (kD x)) hE mwLH_row cfLH (by assumption) w630 w631 w629 rfl rfl (ble rfl) hf hlo hc hs dLa_row_4 [] ⟨0, 9, 12, 19⟩ [⟨0, 9, 15, 55⟩] rfl (fun w hw => absurd hw List.not_mem_nil) (by decide) (by decide) lw19 (by decide +kernel) ?_
  intro q g2 I2 J2 hq
  refine v_astore_n C 3 dLa_row_12 rfl (ble rfl) rfl ?_
  refine v_iconst C 1 dLa_row_13 (by decide) ?_
  exact v_iret C M dLa_row_14 hc hs ⟨rfl, hq⟩
theorem w_row_t2 (l : Launch) (D : va_G) (g : GM) (I : MI) (J : MJ) {a o : Nat} {rm0 : Room} {PX : String → GM → MI → MJ → Prop} (p0 : Int32) (a0 : g.1 a = (5, 0)) (ht : ∀ (l : Launch) (D : va_G), CtT l yLH_row bLH_row 2 (some .int) rm0 D [.ref a, .int p0] g I J PX) (hE : ∀ E g2 I2 J2, PX E g2 I2 J2 → E = xB) (hf : rm0.frames + 1 ≤ 9) (hlo : 8 + (2 + 11) + rm0.locals ≤ 200) (hc : 0 + rm0.cells ≤ 30) (hs : 0 + rm0.slots ≤ 11250) : CtW l yLa_row bLa_row 4 (some .int) [(0, 9, 12, 19), (0, 9, 15, 55)] rmW D [.ref a, .int p0, .ref o] g I J (fun v g2 I2 J2 => v = some (.int 2) ∧ PX xB g2 I2 J2) := by
  refine CtW.of (by decide) (ble rfl) [some (.ref a), some (.int p0), some (.ref o), none] rfl ?_
  intro x C M MM
  refine v_aload_n C 2 dLa_row_0 rfl rfl ?_
  refine v_iconst C 0 dLa_row_1 (by decide) ?_
  refine v_aload_n C 0 dLa_row_2 rfl rfl ?_
  refine v_iload_n C 1 dLa_row_3 rfl rfl ?_
  refine v_catV C MM (ht (kl x) (kD x)) hE mwLH_row cfLH (by assumption) w630 w631 w629 rfl rfl (ble rfl) hf hlo hc hs dLa_row_4 [⟨0, 9, 12, 19⟩] ⟨0, 9, 15, 55⟩ [] rfl (fun w hw => by rw [List.mem_singleton] at hw; subst hw; exact ⟨by decide, _, lw19, MM.2.2.2.1.2.2.2⟩) (by decide) (by decide) lw55 (by decide +kernel) ?_
  intro q g2 I2 J2 hq
  refine v_astore_n C 3 dLa_row_15 rfl (ble rfl) rfl ?_
  refine v_iconst C 2 dLa_row_16 (by decide) ?_
  exact v_iret C M dLa_row_17 hc hs ⟨rfl, hq⟩
theorem w_result_r (l : Launch) (D : va_G) (g : GM) (I : MI) (J : MJ) {a o : Nat} {rm0 : Room} {Post0 : Option Value → GM → MI → MJ → Prop} (p0 : Int32) (a0 : g.1 a = (5, 0)) (hret : ∀ (l : Launch) (D : va_G), Ct l yLH_result bLH_result 2 (some .int) rm0 D [.ref a, .int p0] g I J Post0) (hP : ∀ v g2 I2 J2, Post0 v g2 I2 J2 → (∃ z, v = some (.int z)) ∧ g2.1 o = (11, 1)) (hf : rm0.frames + 1 ≤ 9) (hlo : 8 + (2 + 11) + rm0.locals ≤ 200) (hc : 0 + rm0.cells ≤ 30) (hs : 0 + rm0.slots ≤ 11250) : CtW l yLa_result bLa_result 4 (some .int) [(0, 9, 12, 19), (0, 9, 15, 55)] rmW D [.ref a, .int p0, .ref o] g I J (fun v g2 I2 J2 => v = some (.int 0) ∧ ∃ z J1, Post0 (some (.int z)) g2 I2 J1 ∧ J2 = s2 J1 o 0 (z.toInt64)) := by
  refine CtW.of (by decide) (ble rfl) [some (.ref a), some (.int p0), some (.ref o), none] rfl ?_
  intro x C M MM
  refine v_aload_n C 2 dLa_result_0 rfl rfl ?_
  refine v_iconst C 0 dLa_result_1 (by decide) ?_
  refine v_aload_n C 0 dLa_result_2 rfl rfl ?_
  refine v_iload_n C 1 dLa_result_3 rfl rfl ?_
  refine v_callV C (hret (kl x) (kD x)) mwLH_result cfLH (by assumption) w657 w658 w656 rfl rfl (ble rfl) hf hlo hc hs dLa_result_4 ?_
  intro v g2 I2 J2 hq
  obtain ⟨⟨z, rfl⟩, ho⟩ := hP v g2 I2 J2 hq
  refine v_i2l C dLa_result_7 ?_
  refine v_lastN C (q := (0)) (by assumption) (by first | rfl | (simp only [n16I, n2001I, nI_add, pk_mul, nI_1])) (by omega) (by decide) dLa_result_8 ?_
  refine v_goto C 18 dLa_result_9 (by decide) ?_
  refine v_iconst C 0 dLa_result_18 (by decide) ?_
  exact v_iret C M dLa_result_19 hc hs ⟨rfl, z, J2, hq, rfl⟩
theorem w_result_t1 (l : Launch) (D : va_G) (g : GM) (I : MI) (J : MJ) {a o : Nat} {rm0 : Room} {PX : String → GM → MI → MJ → Prop} (p0 : Int32) (a0 : g.1 a = (5, 0)) (ht : ∀ (l : Launch) (D : va_G), CtT l yLH_result bLH_result 2 (some .int) rm0 D [.ref a, .int p0] g I J PX) (hE : ∀ E g2 I2 J2, PX E g2 I2 J2 → E = xS) (hf : rm0.frames + 1 ≤ 9) (hlo : 8 + (2 + 11) + rm0.locals ≤ 200) (hc : 0 + rm0.cells ≤ 30) (hs : 0 + rm0.slots ≤ 11250) : CtW l yLa_result bLa_result 4 (some .int) [(0, 9, 12, 19), (0, 9, 15, 55)] rmW D [.ref a, .int p0, .ref o] g I J (fun v g2 I2 J2 => v = some (.int 1) ∧ PX xS g2 I2 J2) := by
  refine CtW.of (by decide) (ble rfl) [some (.ref a), some (.int p0), some (.ref o), none] rfl ?_
  intro x C M MM
  refine v_aload_n C 2 dLa_result_0 rfl rfl ?_
  refine v_iconst C 0 dLa_result_1 (by decide) ?_
  refine v_aload_n C 0 dLa_result_2 rfl rfl ?_
  refine v_iload_n C 1 dLa_result_3 rfl rfl ?_
  refine v_catV C MM (ht (kl x) (kD x)) hE mwLH_result cfLH (by assumption) w657 w658 w656 rfl rfl (ble rfl) hf hlo hc hs dLa_result_4 [] ⟨0, 9, 12, 19⟩ [⟨0, 9, 15, 55⟩] rfl (fun w hw => absurd hw List.not_mem_nil) (by decide) (by decide) lw19 (by decide +kernel) ?_
  intro q g2 I2 J2 hq
  refine v_astore_n C 3 dLa_result_12 rfl (ble rfl) rfl ?_
  refine v_iconst C 1 dLa_result_13 (by decide) ?_
  exact v_iret C M dLa_result_14 hc hs ⟨rfl, hq⟩
theorem w_result_t2 (l : Launch) (D : va_G) (g : GM) (I : MI) (J : MJ) {a o : Nat} {rm0 : Room} {PX : String → GM → MI → MJ → Prop} (p0 : Int32) (a0 : g.1 a = (5, 0)) (ht : ∀ (l : Launch) (D : va_G), CtT l yLH_result bLH_result 2 (some .int) rm0 D [.ref a, .int p0] g I J PX) (hE : ∀ E g2 I2 J2, PX E g2 I2 J2 → E = xB) (hf : rm0.frames + 1 ≤ 9) (hlo : 8 + (2 + 11) + rm0.locals ≤ 200) (hc : 0 + rm0.cells ≤ 30) (hs : 0 + rm0.slots ≤ 11250) : CtW l yLa_result bLa_result 4 (some .int) [(0, 9, 12, 19), (0, 9, 15, 55)] rmW D [.ref a, .int p0, .ref o] g I J (fun v g2 I2 J2 => v = some (.int 2) ∧ PX xB g2 I2 J2) := by
  refine CtW.of (by decide) (ble rfl) [some (.ref a), some (.int p0), some (.ref o), none] rfl ?_
  intro x C M MM
  refine v_aload_n C 2 dLa_result_0 rfl rfl ?_
  refine v_iconst C 0 dLa_result_1 (by decide) ?_
  refine v_aload_n C 0 dLa_result_2 rfl rfl ?_
  refine v_iload_n C 1 dLa_result_3 rfl rfl ?_
  refine v_catV C MM (ht (kl x) (kD x)) hE mwLH_result cfLH (by assumption) w657 w658 w656 rfl rfl (ble rfl) hf hlo hc hs dLa_result_4 [⟨0, 9, 12, 19⟩] ⟨0, 9, 15, 55⟩ [] rfl (fun w hw => by rw [List.mem_singleton] at hw; subst hw; exact ⟨by decide, _, lw19, MM.2.2.2.1.2.2.2⟩) (by decide) (by decide) lw55 (by decide +kernel) ?_
  intro q g2 I2 J2 hq
  refine v_astore_n C 3 dLa_result_15 rfl (ble rfl) rfl ?_
  refine v_iconst C 2 dLa_result_16 (by decide) ?_
  exact v_iret C M dLa_result_17 hc hs ⟨rfl, hq⟩
