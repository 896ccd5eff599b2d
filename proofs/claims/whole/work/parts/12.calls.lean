/-! CONTRACTS over the memory: from (g, I, J) with the arguments av the method comes back; Post says with what, and what the memory is then -/
def AA (g : GM) : Nat → Prop := fun q => (g.1 q).1 ≠ 99 ∨ g.2.2 ≤ q
def QP (D : va_G) (A : Nat → Prop) (Post : Option Value → GM → MI → MJ → Prop) : Array Value → State → Outcome → State → Prop := fun _ st oc t => (∃ (v : Option Value) (g : GM) (I : MI) (J : MJ), oc = .returned v ∧ Post v g I J ∧ t.heap.size = g.2.2 ∧ Wo D g.1 g.2.1 I J t.heap ∧ ∀ a : Nat, (g.1 a).1 ≠ 99 → A a) ∧ va_F A st t
def PP (D : va_G) (g : GM) (I : MI) (J : MJ) (av : List Value) : Array Value → State → Prop := va_Pc av (fun U => U.heap.size = g.2.2 ∧ Wo D g.1 g.2.1 I J U.heap ∧ KK D U)
def Ct (l : Launch) (y : MethodName) (cc : ByteArray) (nL : Nat) (ret : Option FieldType) (rm : Room) (D : va_G) (av : List Value) (g : GM) (I : MI) (J : MJ) (Post : Option Value → GM → MI → MJ → Prop) : Prop :=
  Met l y (.code y cc nL ret :: TB) rm (PP D g I J av) (QP D (AA g) Post) rm.cells rm.slots (AA g)
/-- what a walk knows of its own contract -/
def Mx (x : KX) (l : Launch) (D : va_G) (g : GM) (ret : Option FieldType) (nm : String) (rm : Room) (Post : Option Value → GM → MI → MJ → Prop) : Prop :=
  kl x = l ∧ kD x = D ∧ (kme x).sig.returnType = ret ∧ kA x = AA g ∧ kQ x = MQ (kbe x) (QP D (AA g) Post) (kar x) (ks x) rm.cells rm.slots (AA g) ∧ (kme x).name = nm
theorem PP_blind {D : va_G} {g : GM} {I : MI} {J : MJ} {av : List Value} : FrameBlind (PP D g I J av) := fun a U g2 mk q => by
  obtain ⟨q0, q1, qP, qK⟩ := q
  exact ⟨q0, q1, qP, KK.same (s := U) (U := U.calling g2 mk a) rfl qK⟩
theorem Ct.of {l : Launch} {y : MethodName} {cc : ByteArray} {nL : Nat} {ret : Option FieldType} {rm : Room} {D : va_G} {av : List Value} {g : GM} {I : MI} {J : MJ} {Post : Option Value → GM → MI → MJ → Prop} (hy : plainName y.cls = true) (hlen : (lg_sl av).length ≤ nL) (lv0 : List (Option Value)) (he : prs lv0 = lv_args 0 av)
    (body : ∀ x : KX, Cx x cc y.cls nL rm → Mx x l D g ret y.name rm Post → V x g 0 0 I J 0 lv0 []) : Ct l y cc nL ret rm D av g I J Post := by
  refine Met.ofW (cc := cc) (maxL := nL) (ret := ret) hy rfl ?_
  intro p e s m args below meth c s₁ B hml hv
  obtain ⟨rfl, hsz, hP, hK⟩ := hv
  have hts := atoms_spec (ws := Cond.code y cc nL ret :: TB) B.pre
  have hown : s.vm.findClass y.cls = some m.cls := findClass_of_methodNamed B.named
  have hin := name_of_methodNamed B.named B.method
  have hl := lv_entry av (n := nL) hlen
  rw [lg_entry_eq]
  generalize (lg_sl av ++ List.replicate (nL - (lg_sl av).length) Slot.unset).toArray = ls at hl ⊢
  have hA : ∀ q, s.heap.size ≤ q → AA g q := fun q h => Or.inr (by rw [← hsz]; exact h)
  refine body (p, l, e, rm, s, m, av.toArray, below, meth, c, nL, D, AA g, MQ below (QP D (AA g) Post) av.toArray s rm.cells rm.slots (AA g)) ⟨B.exec, B.bytes, hown, fun w hw => hts w (List.mem_cons_of_mem _ hw), hK, hml, rfl, rfl, B.notSynchronized, hA⟩ ⟨rfl, rfl, B.returns, rfl, rfl, hin.1⟩ s.heap [] ls hsz hP (fun a ha => Or.inl ha) va_S.rf ?_
  show lv_has ls nL (prs lv0)
  rw [he]
  exact hl
section VC
variable {x : KX} {cc : ByteArray} {own : String} {nL : Nat} {rm : Room} {g : GM} {cells slots : Nat} {I : MI} {J : MJ} {pc : Nat} {lv : List (Option Value)} {st : List Value}
variable {l : Launch} {D : va_G} {g0 : GM} {nm : String} {Post : Option Value → GM → MI → MJ → Prop}
theorem ret_q {v : Option Value} {ret : Option FieldType} (M : Mx x l D g0 ret nm rm Post) (hp : Post v g I J) {H : Heap} {locs : List Loc} (a1 : H.size = g.2.2) (a2 : Wo (kD x) g.1 g.2.1 I J H) (a3 : ∀ a : Nat, (g.1 a).1 ≠ 99 → kA x a) (a4 : va_S (kA x) (ks x).heap H locs) (t : State) (ht : t.heap = H) : QP D (AA g0) Post (kar x) (ks x) (.returned v) t := by
  obtain ⟨m1, m2, m3, m4, m5, m6⟩ := M
  rw [m4] at a3 a4
  rw [m2] at a2
  exact ⟨⟨v, g, I, J, rfl, hp, by rw [ht]; exact a1, by rw [ht]; exact a2, a3⟩, a4.F ht⟩
theorem v_iret (C : Cx x cc own nL rm) (M : Mx x l D g0 (some .int) nm rm Post) {v : Int32} (d : decode cc pc = .ok (.ireturn, 1)) (hc : cells ≤ rm.cells) (hs : slots ≤ rm.slots) (hp : Post (some (.int v)) g I J) : V x g cells slots I J pc lv [.int v] := fun H locs ls a1 a2 a3 a4 a5 => by
  refine W.widen hc hs ?_
  rw [M.2.2.2.2.1]
  exact W.iret C.1 C.2.1 M.2.2.1 (fun t ht _ => ret_q M hp a1 a2 a3 a4 t ht) (fun q hq => by rw [← M.2.2.2.1]; exact a4.2.2 q hq) d C.2.2.2.2.2.2.2.2.1
theorem v_zret (C : Cx x cc own nL rm) (M : Mx x l D g0 (some .boolean) nm rm Post) {v : Int32} (hv : v = 0 ∨ v = 1) (d : decode cc pc = .ok (.ireturn, 1)) (hc : cells ≤ rm.cells) (hs : slots ≤ rm.slots) (hp : Post (some (.int v)) g I J) : V x g cells slots I J pc lv [.int v] := fun H locs ls a1 a2 a3 a4 a5 => by
  refine W.widen hc hs ?_
  rw [M.2.2.2.2.1]
  exact W.zret C.1 C.2.1 M.2.2.1 (by rcases hv with rfl | rfl <;> rfl) (fun t ht _ => ret_q M hp a1 a2 a3 a4 t ht) (fun q hq => by rw [← M.2.2.2.1]; exact a4.2.2 q hq) d C.2.2.2.2.2.2.2.2.1
theorem v_lret (C : Cx x cc own nL rm) (M : Mx x l D g0 (some .long) nm rm Post) {v : Int64} (d : decode cc pc = .ok (.lreturn, 1)) (hc : cells ≤ rm.cells) (hs : slots ≤ rm.slots) (hp : Post (some (.long v)) g I J) : V x g cells slots I J pc lv [.long v] := fun H locs ls a1 a2 a3 a4 a5 => by
  refine W.widen hc hs ?_
  rw [M.2.2.2.2.1]
  exact W.lret C.1 C.2.1 M.2.2.1 (fun t ht _ => ret_q M hp a1 a2 a3 a4 t ht) (fun q hq => by rw [← M.2.2.2.1]; exact a4.2.2 q hq) d C.2.2.2.2.2.2.2.2.1
theorem v_aret (C : Cx x cc own nL rm) {cn : String} (M : Mx x l D g0 (some (.object cn)) nm rm Post) {a : Nat} (d : decode cc pc = .ok (.areturn, 1)) (hc : cells ≤ rm.cells) (hs : slots ≤ rm.slots) (hp : Post (some (.ref a)) g I J) : V x g cells slots I J pc lv [.ref a] := fun H locs ls a1 a2 a3 a4 a5 => by
  refine W.widen hc hs ?_
  rw [M.2.2.2.2.1]
  exact W.aret C.1 C.2.1 M.2.2.1 (Or.inl ⟨cn, rfl⟩) (Or.inr ⟨a, rfl⟩) (fun t ht _ => ret_q M hp a1 a2 a3 a4 t ht) (fun q hq => by rw [← M.2.2.2.1]; exact a4.2.2 q hq) d C.2.2.2.2.2.2.2.2.1
theorem v_vret (C : Cx x cc own nL rm) (M : Mx x l D g0 none nm rm Post) (d : decode cc pc = .ok (.return_, 1)) (hc : cells ≤ rm.cells) (hs : slots ≤ rm.slots) (hp : Post none g I J) : V x g cells slots I J pc lv [] := fun H locs ls a1 a2 a3 a4 a5 => by
  refine W.widen hc hs ?_
  rw [M.2.2.2.2.1]
  exact W.vret C.1 C.2.1 M.2.2.1 (fun t ht _ => ret_q M hp a1 a2 a3 a4 t ht) (fun q hq => by rw [← M.2.2.2.1]; exact a4.2.2 q hq) d C.2.2.2.2.2.2.2.2.1
/-! calls -/
/-- a method's words: n its arguments -/
def MW (y : MethodName) (cc2 : ByteArray) (nL2 : Nat) (ret2 : Option FieldType) (n : Nat) : Prop := Cond.code y cc2 nL2 ret2 ∈ TB ∧ Cond.initialized y.cls ∈ TB ∧ (y.cls ≠ "java/lang/invoke/MethodHandle" ∧ y.cls ≠ "java/lang/invoke/VarHandle") ∧ (parseMethodDescriptor y.desc).map (fun d => d.parameters.length) = some n
theorem tb_good {w : Cond} (h : w ∈ TB) : goodWord w = true := (List.mem_filter.mp h).2
theorem ws_ok (C : Cx x cc own nL rm) {w0 : Cond} (h0 : w0 ∈ TB) : ∀ w ∈ w0 :: TB, ∀ (a' : Array Value) (U : State), (ks x).WarmedH U.vm → w.before a' U = true := fun w hw a' U hW => by
  have hm : w ∈ TB := (List.mem_cons.mp hw).elim (fun e => e ▸ h0) id
  exact word_at hW (good_of_word (tb_good hm)) (C.tb hm)
theorem call_b (C : Cx x cc own nL rm) {y : MethodName} {cc2 : ByteArray} {nL2 n idx : Nat} {ret2 : Option FieldType} {rm2 : Room} (hm : MW y cc2 nL2 ret2 n) (hl : Cond.methodLink own idx y ∈ TB) (hf : rm2.frames + 1 ≤ rm.frames) (hlo : 8 + (nL2 + 11) + rm2.locals ≤ rm.locals) : CallB (kR x) (ks x) (kar x) own idx y cc2 nL2 ret2 (Cond.code y cc2 nL2 ret2 :: TB) rm2 rm2.cells rm2.slots n := by
  obtain ⟨m1, m2, m3, m4⟩ := hm
  have hR := C.2.2.2.2.2.2.2.1
  refine ⟨rfl, rfl, by rw [hR]; exact hf, by rw [hR]; exact hlo, ws_ok C m1, List.mem_cons_self, C.tb m1, C.tb m2, m3, fun sig h => ?_, C.tb hl⟩
  rw [h] at m4
  exact (Option.some.inj m4).symm
theorem call_go (C : Cx x cc own nL rm) {Qa : Array Value → State → Outcome → State → Prop} {As : Array Value} {rm2 : Room} {H : Heap} {locs : List Loc} {ls : Array Slot} {stk : List Value} (a1 : H.size = g.2.2) (a3 : ∀ a : Nat, (g.1 a).1 ≠ 99 → kA x a) (a4 : va_S (kA x) (ks x).heap H locs) (a5 : lh ls (kn x) lv)
    (hr : va_Run (kp x) (kl x) (ke x) (kR x) (ks x) (km x) (kar x) (kbe x) (kme x) (kc x) H locs cells slots rm2.cells rm2.slots (F0 (km x) pc ls stk) st (QP (kD x) (AA g) Post As) (AA g))
    (k : ∀ (v : Option Value) (g2 : GM) (I2 : MI) (J2 : MJ), Post v g2 I2 J2 → V x g2 (cells + rm2.cells) (slots + rm2.slots) I2 J2 (pc + 3) lv (v.toList ++ st)) :
    W (kp x) (kl x) (ke x) (kR x) (ks x) (km x) (kar x) (kbe x) (kme x) (kc x) H locs cells slots (kQ x) (F0 (km x) pc ls stk) := by
  intro T hT X
  obtain ⟨v, st₀, t, T', L, h0, X', hL, e1, e2, ⟨⟨v2, g2, I2, J2, hv, hp, hz2, hW2, hA2⟩, hz, hk⟩, st1⟩ := hr T hT X
  cases hv
  rw [h0] at hz hk
  have hAA : ∀ q, AA g q → kA x q := fun q hq => hq.elim (a3 q) (fun h => C.2.2.2.2.2.2.2.2.2 q (Nat.le_trans a4.1 (by rw [a1]; exact h)))
  obtain ⟨t2, b1, b2⟩ := k v g2 I2 J2 hp T'.heap (locs ++ L) ls (by rw [e1]; exact hz2) (by rw [e1]; exact hW2) (fun a ha => hAA a (hA2 a ha)) ⟨Nat.le_trans a4.1 (by rw [e1]; exact hz), fun q h1 h2 => by
      rw [e1, hk q (Nat.lt_of_lt_of_le h1 a4.1) (fun z => h2 (hAA q z))]
      exact a4.2.1 q h1 h2, fun q hq => by
      rcases List.mem_append.mp hq with h | h
      · exact a4.2.2 q h
      · exact hAA _ (hL q h)⟩ a5 T' rfl X'
  exact ⟨t2, st1 t2 b1, b2⟩
theorem PP_at (C : Cx x cc own nL rm) {H : Heap} (a1 : H.size = g.2.2) (a2 : Wo (kD x) g.1 g.2.1 I J H) (av : List Value) : ∀ U : State, U.heap = H → (ks x).WarmedH U.vm → PP (kD x) g I J av av.toArray U := fun U hU hW => ⟨rfl, by rw [hU]; exact a1, by rw [hU]; exact a2, KK.warm hW C.2.2.2.2.1⟩
theorem v_callV (C : Cx x cc own nL rm) {y : MethodName} {cc2 : ByteArray} {nL2 n idx b ci m2 N : Nat} {ret2 : Option FieldType} {rm2 : Room} {As stk : List Value} {Cn : String} {T : u_T} {ty : Nat → FieldType} (hct : Ct (kl x) y cc2 nL2 ret2 rm2 (kD x) (.ref b :: As) g I J Post) (hm : MW y cc2 nL2 ret2 n) (F : CF ci Cn T N ty) (hb : g.1 b = (ci, m2)) (hi : Cond.instanceMethod y ∈ TB) (hse : Cond.selects Cn y y ∈ TB) (hl : Cond.methodLink own idx y ∈ TB) (hn : As.length = n) (hst : stk = As.reverse ++ .ref b :: st) (hW : (st.map fun v => v.category).sum ≤ 8) (hf : rm2.frames + 1 ≤ rm.frames) (hlo : 8 + (nL2 + 11) + rm2.locals ≤ rm.locals) (hc2 : cells + rm2.cells ≤ rm.cells) (hs2 : slots + rm2.slots ≤ rm.slots) (d : decode cc pc = .ok (.invokevirtual idx, 3))
    (k : ∀ (v : Option Value) (g2 : GM) (I2 : MI) (J2 : MJ), Post v g2 I2 J2 → V x g2 (cells + rm2.cells) (slots + rm2.slots) I2 J2 (pc + 3) lv (v.toList ++ st)) : V x g cells slots I J pc lv stk := fun H locs ls a1 a2 a3 a4 a5 => by
  obtain ⟨f1, f2, f3, f4, f5, f6⟩ := F
  have hE := a2 b (sh_live hb (by omega))
  rw [cE_o hb f6] at hE
  have hR := C.2.2.2.2.2.2.2.1
  refine call_go C (Qa := QP (kD x) (AA g) Post) (As := (Value.ref b :: As).toArray) a1 a3 a4 a5 (va_runV (Ts := TB) (As := As) (b := b) (C := Cn) ⟨C.1, C.2.1, C.2.2.2.2.2.1, C.2.2.1, C.2.2.2.1⟩ hct ⟨call_b C hm hl hf hlo, C.tb hi, C.tb hse⟩ ⟨PP_blind, va_recv C.2.2.2.2.1.1 (one_P hE) f1 (q0 := 0) rfl, PP_at C a1 a2 _⟩ rfl hn (a5.1.trans C.2.2.2.2.2.2.1) hst (by simpa using hW) d ⟨by rw [hR]; exact hc2, by rw [hR]; exact hs2⟩) k
theorem v_callS (C : Cx x cc own nL rm) {y : MethodName} {cc2 : ByteArray} {nL2 n idx : Nat} {ret2 : Option FieldType} {rm2 : Room} {As stk : List Value} (hct : Ct (kl x) y cc2 nL2 ret2 rm2 (kD x) As g I J Post) (hm : MW y cc2 nL2 ret2 n) (hi : Cond.static y ∈ TB) (hl : Cond.methodLink own idx y ∈ TB) (hn : As.length = n) (hst : stk = As.reverse ++ st) (hW : (st.map fun v => v.category).sum ≤ 8) (hf : rm2.frames + 1 ≤ rm.frames) (hlo : 8 + (nL2 + 11) + rm2.locals ≤ rm.locals) (hc2 : cells + rm2.cells ≤ rm.cells) (hs2 : slots + rm2.slots ≤ rm.slots) (d : decode cc pc = .ok (.invokestatic idx, 3))
    (k : ∀ (v : Option Value) (g2 : GM) (I2 : MI) (J2 : MJ), Post v g2 I2 J2 → V x g2 (cells + rm2.cells) (slots + rm2.slots) I2 J2 (pc + 3) lv (v.toList ++ st)) : V x g cells slots I J pc lv stk := fun H locs ls a1 a2 a3 a4 a5 => by
  have hR := C.2.2.2.2.2.2.2.1
  refine call_go C (Qa := QP (kD x) (AA g) Post) (As := As.toArray) a1 a3 a4 a5 (va_runS (Ts := TB) (As := As) ⟨C.1, C.2.1, C.2.2.2.2.2.1, C.2.2.1, C.2.2.2.1⟩ hct ⟨call_b C hm hl hf hlo, C.tb hi⟩ ⟨PP_blind, PP_at C a1 a2 _⟩ rfl hn (a5.1.trans C.2.2.2.2.2.2.1) hst (by simpa using hW) d ⟨by rw [hR]; exact hc2, by rw [hR]; exact hs2⟩) k
theorem v_callI (C : Cx x cc own nL rm) {y : MethodName} {cc2 : ByteArray} {nL2 n idx b : Nat} {rm2 : Room} {As stk : List Value} (hct : Ct (kl x) y cc2 nL2 none rm2 (kD x) (.ref b :: As) g I J Post) (hm : MW y cc2 nL2 none n) (hy : y.name = "<init>") (hi : Cond.instanceMethod y ∈ TB) (hl : Cond.methodLink own idx y ∈ TB) (hn : As.length = n) (hst : stk = As.reverse ++ .ref b :: st) (hW : (st.map fun v => v.category).sum ≤ 8) (hf : rm2.frames + 1 ≤ rm.frames) (hlo : 8 + (nL2 + 11) + rm2.locals ≤ rm.locals) (hc2 : cells + rm2.cells ≤ rm.cells) (hs2 : slots + rm2.slots ≤ rm.slots) (d : decode cc pc = .ok (.invokespecial idx, 3))
    (k : ∀ (v : Option Value) (g2 : GM) (I2 : MI) (J2 : MJ), Post v g2 I2 J2 → V x g2 (cells + rm2.cells) (slots + rm2.slots) I2 J2 (pc + 3) lv (v.toList ++ st)) : V x g cells slots I J pc lv stk := fun H locs ls a1 a2 a3 a4 a5 => by
  have hR := C.2.2.2.2.2.2.2.1
  refine call_go C (Qa := QP (kD x) (AA g) Post) (As := (Value.ref b :: As).toArray) a1 a3 a4 a5 (va_runI (Ts := TB) (As := As) (b := b) ⟨C.1, C.2.1, C.2.2.2.2.2.1, C.2.2.1, C.2.2.2.1⟩ hct ⟨call_b C hm hl hf hlo, hy, C.tb hi⟩ ⟨PP_blind, PP_at C a1 a2 _⟩ rfl hn (a5.1.trans C.2.2.2.2.2.2.1) hst (by simpa using hW) d ⟨by rw [hR]; exact hc2, by rw [hR]; exact hs2⟩) k
/-- Object's constructor -/
theorem v_objI (C : Cx x cc own nL rm) {idx a : Nat} (hl : Cond.methodLink own idx Lib.objectInit ∈ TB) (hf : 1 ≤ rm.frames) (hlo : (st.map fun v => v.category).sum + 12 ≤ rm.locals) (d : decode cc pc = .ok (.invokespecial idx, 3)) (k : V x g cells slots I J (pc + 3) lv st) : V x g cells slots I J pc lv (.ref a :: st) := fun H locs ls a1 a2 a3 a4 a5 => by
  have hR := C.2.2.2.2.2.2.2.1
  exact W.objInit C.1 C.2.1 C.2.2.1 (C.tb hl) (C.tb w21) (C.tb w22) rfl (by show ls.size = _; rw [a5.1, C.2.2.2.2.2.1]; exact C.2.2.2.2.2.2.1) rfl d (by rw [hR]; exact hf) (by rw [hR]; simpa using hlo) (k H locs ls a1 a2 a3 a4 a5)
end VC
