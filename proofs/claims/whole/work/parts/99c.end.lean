/-! THE CLAIM OUT OF ONE WALK OF THE LAW'S BODY. Your part is whole_start (and what it stands on); all else here is the same for every law, but numbers. -/
def R_law : String := "LinearHistoriesLaw"
def lw_P (b : Addr) (xs : List Int32) (args : Array Value) (s : State) : Prop := args = #[.ref b] ∧ s.IntsAt b xs ∧ xs.length ≤ 3072 ∧ (Jvm.Cond.and given_1 narrow_1).before args s = true
def lw_Q (_ : Array Value) (s : State) (o : Outcome) (t : State) : Prop := o = .returned (some (.int 1)) ∧ Framed s o t [] 247816 8352658
def lw_Z (below : List Frame) (a : Array Value) (s : State) : State → Prop := fun t => ∃ o, t.status = .running ∧ Ended t below o ∧ lw_Q a s o t
/-- the law's own end, with 1 on the stack, nothing written that was there before, its room as the claim has it -/
theorem lw_ret {p : Program} {l : Launch} {e : Env} {s : State} {m : MethodId} {below : List Frame} {meth : Method} {c : Code} {b : Nat} (hx : p.tables.exec = Jvm.exec) (hb : c.code = code) (hr : meth.sig.returnType = ret) (hlocks : meth.locks = false) {pc : Nat} {H : Heap} {ls : Array Slot} (hdg : decode code pc = .ok (.ireturn, 1)) : W p l e room_1 s m #[Value.ref b] below meth c H [] 247816 8352658 (lw_Z below #[Value.ref b] s) (F0 m pc ls [.int 1]) := by
  intro T hT X
  obtain ⟨fs, hret, hrun, hended, hW, hframe⟩ := X.leave (v := some (.int 1)) (hlocks := hlocks) (fun h => by rw [hr] at h; cases h)
  have hmeth' : T.vm.method? m = some meth := X.method'
  refine ⟨T.setFrames fs, ?_, .returned (some (.int 1)), hrun, hended, rfl, ⟨_, rfl⟩, hW, hframe⟩
  jvm_step X.here [X.here.top, hx, hb, hdg, hmeth', hr, ret, narrow_b1]
  (try refine ⟨rfl, ?_⟩); (try refine ⟨rfl, ?_⟩)
  first | (intro acts; rw [hret _ acts rfl rfl rfl]) | rw [hret _ _ rfl rfl rfl]
  exact Steps.refl _
/-- what holds at the law's entry: the machine, the code, the tables' words (any of lw_tbl by 'hts w (by decide +kernel)'), the script of L ints xs at the cell b, what the Statement gives of the start (any of its parts by flat_of_before) -/
def lw_At (p : Program) (s : State) (m : MethodId) (meth : Method) (c : Code) (b L : Nat) (xs : Nat → Int32) : Prop :=
  p.tables.exec = Jvm.exec ∧ c.code = code ∧ meth.sig.returnType = ret ∧ c.maxLocals = 8 ∧ s.vm.findClass R_law = some m.cls ∧ (∀ w ∈ lw_tbl, w.before #[Value.ref b] s = true) ∧ va_X b L xs s s.heap ∧ b < s.heap.size ∧ meth.locks = false ∧ (Jvm.Cond.and given_1 narrow_1).before #[Value.ref b] s = true
-- ===== YOUR PART BEGINS =====
/-- YOUR PART: from the entry, for every script of at most 3072 ints, the law comes to its end with true -/
theorem whole_start {p : Program} {e : Env} {s : State} {m : MethodId} {below : List Frame} {meth : Method} {c : Code} (l : Launch) (hst : l.stackTraces = false) {b L : Nat} {xs : Nat → Int32} (hL : L ≤ 3072) (C0 : lw_At p s m meth c b L xs) : W p l e room_1 s m #[Value.ref b] below meth c s.heap [] 0 0 (lw_Z below #[Value.ref b] s) (entryFrame m ([Value.ref b] : List Value).toArray 8) := by
  obtain ⟨hx, hcode, hret, hml, hown, hts, hX, hbl, hlocks, hgv⟩ := C0
  have ht : ∀ {w : Cond} (i : Nat), tables_1[i]? = some w → w.before #[Value.ref b] s = true := fun i h => hts _ (List.mem_append_right _ (List.mem_of_getElem? h))
  have hTB : ∀ w ∈ TB, w.before #[Value.ref b] s = true := fun w hw => hts w (List.mem_filter.mp hw).1
  have hgf := flat_of_before _ hgv
  obtain ⟨c0, i0, k0⟩ := u_known (T := TOp) (N := 8) hTB cfOp.2.1 (hTB _ w347)
  obtain ⟨c1, i1, k1⟩ := u_known (T := TSp) (N := 8) hTB cfSp.2.1 (hTB _ w26)
  obtain ⟨c2, i2, k2⟩ := u_known (T := TSt) (N := 3) hTB cfSt.2.1 (hTB _ w60)
  obtain ⟨c3, i3, k3⟩ := u_known (T := TSu) (N := 18) hTB cfSu.2.1 (hTB _ w338)
  obtain ⟨c4, i4, k4⟩ := u_known (T := TTa) (N := 5) hTB cfTa.2.1 (hTB _ w32)
  obtain ⟨c5, i5, k5⟩ := u_known (T := TLH) (N := 15) hTB cfLH.2.1 (hTB _ w16)
  obtain ⟨c6, i6, k6⟩ := u_known (T := TMo) (N := 35) hTB cfMo.2.1 (hTB _ w661)
  obtain ⟨a0, q0, p0, x0, y0, z0⟩ := Cond.arrayClass_spec (hTB _ w57)
  obtain ⟨a1, q1, p1, x1, y1, z1⟩ := Cond.arrayClass_spec (hTB _ w58)
  obtain ⟨a2, q2, p2, x2, y2, z2⟩ := Cond.arrayClass_spec (hTB _ w107)
  have hAO : va_AO "LinearHistories$Operation" s := va_AO.of (A := #[Value.ref b]) (ht 344 (by decide +kernel))
  have hAU : va_AO "LinearHistories$Subject" s := va_AO.of (A := #[Value.ref b]) (ht 24 (by decide +kernel))
  obtain ⟨p3, a3, q3, t31, t32, t33, t34, t35⟩ := Cond.arrayOver_spec hAO
  obtain ⟨p4, a4, q4, t41, t42, t43, t44, t45⟩ := Cond.arrayOver_spec hAU
  let D : va_G := (fun c => match c with
    | 0 => c0
    | 1 => c1
    | 2 => c2
    | 3 => c3
    | 4 => c4
    | 5 => c5
    | 6 => c6
    | 100 => a0
    | 101 => a1
    | 102 => a2
    | 103 => a3
    | _ => a4, fun c => match c with
    | 0 => i0
    | 1 => i1
    | 2 => i2
    | 3 => i3
    | 4 => i4
    | 5 => i5
    | _ => i6)
  have hK : va_K D vcl (ktys D) s := by
    refine ⟨fun c q hq => ?_, fun k q hk => ?_⟩
    · have hlt : c < 7 := (List.getElem?_eq_some_iff.mp hq).1
      have hc : c = 0 ∨ c = 1 ∨ c = 2 ∨ c = 3 ∨ c = 4 ∨ c = 5 ∨ c = 6 := by omega
      rcases hc with rfl | rfl | rfl | rfl | rfl | rfl | rfl
      · cases hq; exact k0
      · cases hq; exact k1
      · cases hq; exact k2
      · cases hq; exact k3
      · cases hq; exact k4
      · cases hq; exact k5
      · cases hq; exact k6
    · have hlt : k < 5 := (List.getElem?_eq_some_iff.mp hk).1
      have hc : k = 0 ∨ k = 1 ∨ k = 2 ∨ k = 3 ∨ k = 4 := by omega
      rcases hc with rfl | rfl | rfl | rfl | rfl
      · cases hk; exact ⟨fun n z => ⟨fun k h => (by cases h), q0, y0, p0, z0⟩, x0⟩
      · cases hk; exact ⟨fun n z => ⟨fun k h => (by cases h), q1, y1, p1, z1⟩, x1⟩
      · cases hk; exact ⟨fun n z => ⟨fun k h => (by cases h), q2, y2, p2, z2⟩, x2⟩
      · cases hk; exact ⟨fun n z => ⟨fun k h => (by cases h), q3, t33, p3, t34⟩, ⟨q3, p3, t33, t34, t31, t35⟩⟩
      · cases hk; exact ⟨fun n z => ⟨fun k h => (by cases h), q4, t43, p4, t44⟩, ⟨q4, p4, t43, t44, t41, t45⟩⟩
  have hKK : KK D s := by
    refine ⟨hK, hAO, hAU, fun w hw => ?_⟩
    simp only [knest, List.mem_cons, List.not_mem_nil, or_false] at hw
    rcases hw with rfl | rfl | rfl | rfl | rfl
    · exact va_Nw.of (A := #[Value.ref b]) rfl (ht 27 (by decide +kernel))
    · exact va_Nw.of (A := #[Value.ref b]) rfl (ht 33 (by decide +kernel))
    · exact va_Nw.of (A := #[Value.ref b]) rfl (ht 61 (by decide +kernel))
    · exact va_Nw.of (A := #[Value.ref b]) rfl (ht 346 (by decide +kernel))
    · exact va_Nw.of (A := #[Value.ref b]) rfl (ht 348 (by decide +kernel))
  have hZt : Zt s := by
    refine ⟨fun w hw => ?_, fun q hq => ?_, va_Nc.of (hgf (Cond.not (.castable xS xA)) (by decide +kernel)), va_Nc.of (hgf (Cond.not (.castable xB xS)) (by decide +kernel))⟩
    · simp only [zws, List.mem_cons, List.not_mem_nil, or_false] at hw
      rcases hw with rfl | rfl | rfl | rfl | rfl | rfl
      · exact va_Nw.of (A := #[Value.ref b]) rfl (ht 177 (by decide +kernel))
      · exact va_Nw.of (A := #[Value.ref b]) rfl (ht 179 (by decide +kernel))
      · exact va_Nw.of (A := #[Value.ref b]) rfl (ht 181 (by decide +kernel))
      · exact va_Nw.of (A := #[Value.ref b]) rfl (ht 175 (by decide +kernel))
      · exact va_Nw.of (A := #[Value.ref b]) rfl (ht 477 (by decide +kernel))
      · exact va_Nw.of (A := #[Value.ref b]) rfl (ht 639 (by decide +kernel))
    · simp only [zst, List.mem_cons, List.not_mem_nil, or_false] at hq
      have str : ∀ (i k : Nat) (tx : String), tables_1[i]? = some (Cond.stringRef RLH k tx) → ∃ sa, vk_R RLH k tx sa s := fun i k tx hi => by
        have hw := ht i hi
        obtain ⟨k', cf, j, sa, -, -, -, -, -, he⟩ := Cond.stringRef_spec k5.2.1 hw
        exact ⟨sa, vk_R.of hw he⟩
      rcases hq with rfl | rfl | rfl | rfl | rfl | rfl | rfl | rfl
      · exact str 597 _ _ (by decide +kernel)
      · exact str 646 _ _ (by decide +kernel)
      · exact str 469 _ _ (by decide +kernel)
      · exact str 518 _ _ (by decide +kernel)
      · exact str 214 _ _ (by decide +kernel)
      · exact str 337 _ _ (by decide +kernel)
      · exact str 474 _ _ (by decide +kernel)
      · exact str 484 _ _ (by decide +kernel)
  have hZh : Zh (fun q => s.heap.size ≤ q) s s.heap := ⟨vx_Zqof (ht 200 (by decide +kernel)) (ht 7 (by decide +kernel)) (hgf (Cond.isRef (.static Bundle.tN "UNASSIGNED_STACK" Bundle.steD)) (by decide +kernel)) (fun a ha => Nat.not_le.mpr ha), vx_Zqof (ht 202 (by decide +kernel)) (ht 7 (by decide +kernel)) (hgf (Cond.isRef (.static Bundle.tN "SUPPRESSED_SENTINEL" Bundle.listD)) (by decide +kernel)) (fun a ha => Nat.not_le.mpr ha)⟩
  have C : Cx ((p, l, e, room_1, s, m, #[Value.ref b], below, meth, c, 8, D, (fun q => s.heap.size ≤ q), lw_Z below #[Value.ref b] s) : KX) bLa_law RLa 8 room_1 := ⟨hx, hcode, hown, hTB, hKK, hml, rfl, rfl, hlocks, fun q hq => hq⟩
  have HB : LB ((p, l, e, room_1, s, m, #[Value.ref b], below, meth, c, 8, D, (fun q => s.heap.size ≤ q), lw_Z below #[Value.ref b] s) : KX) b L xs := ⟨hX, hbl, Nat.not_le.mpr hbl, hst, hZt, hZh⟩
  have hE : LE ((p, l, e, room_1, s, m, #[Value.ref b], below, meth, c, 8, D, (fun q => s.heap.size ≤ q), lw_Z below #[Value.ref b] s) : KX) := fun g I J cells slots lv h1 h2 H locs ls b1 b2 b3 b4 b5 => va_forget (fun q hq => b4.2.2 q hq) (W.widen h1 h2 (lw_ret hx hcode hret hlocks dLa_law_901))
  have V0 := la_start C HB hE hL rfl
  have hl := lv_entry [Value.ref b] (n := 8) (ble rfl)
  rw [lg_entry_eq]
  generalize (lg_sl [Value.ref b] ++ List.replicate (8 - (lg_sl [Value.ref b]).length) Slot.unset).toArray = ls at hl ⊢
  exact V0 s.heap [] ls rfl (fun q hq => absurd rfl hq) (fun q hq => absurd rfl hq) va_S.rf hl
-- ===== YOUR PART ENDS =====
set_option maxHeartbeats 4000000 in
theorem lw_walk (l : Launch) (hst : l.stackTraces = false) (b : Addr) (xs : List Int32) : MetFree l x (headSpec (Jvm.Cond.code x code maxLocals ret :: tables_1) room_1) (lw_P b xs) (fun _ _ _ _ _ => True) lw_Q := by
  refine MetFree.of_bodyS (code := code) (maxLocals := maxLocals) (ret := ret) (by decide) ?_ ?_
  · intro args s m h hn
    obtain ⟨meth, c, h1, h2, h3, h4, h5, h6, -, -⟩ := Cond.code_spec hn (atoms_spec (ws := Jvm.Cond.code x code maxLocals ret :: tables_1) h _ List.mem_cons_self)
    exact ⟨meth, c, h1, h2, h3, h4, h5, h6⟩
  · intro p e s m args below meth c s₁ B hml0 hP _
    obtain ⟨rfl, hx, hbd, hgv⟩ := hP
    obtain ⟨scr, harrAt, hlist, hof, hsmall⟩ := hx
    obtain ⟨hcb, hkn, -, -⟩ := State.arrayAt?_spec harrAt
    have hown : s.vm.findClass R_law = some m.cls := findClass_of_methodNamed B.named
    have hts0 : ∀ c ∈ (Jvm.Cond.code x code maxLocals ret :: tables_1), c.before #[Value.ref b] s = true := atoms_spec (ws := Jvm.Cond.code x code maxLocals ret :: tables_1) B.pre
    have hts : ∀ w ∈ lw_tbl, w.before #[Value.ref b] s = true := k2_hts_sels lw_privs (fun w hw => hts0 w (List.mem_cons_of_mem _ hw)) lw_privs_ok
    have hml : c.maxLocals = 8 := B.maxLocals_eq (hts0 _ List.mem_cons_self)
    have X₀ : Stand p l e room_1 s m #[Value.ref b] below meth c s₁ [] 0 0 := Stand.of_body B
    have hh0 : s₁.heap = s.heap := by rw [B.state]; rfl
    have hsz : scr.slots.size = xs.length := by rw [← Array.length_toList, hlist, List.length_map]
    have hval : ∀ j : Nat, j < xs.length → scr.slots[j]? = some (.int (xs.getD j 0)) := fun j hj => by
      rw [← Array.getElem?_toList, hlist]
      simp [hj]
    have hbl : b < s.heap.size := (Array.getElem?_eq_some_iff.mp hcb).1
    have hX : va_X b xs.length (fun j => xs.getD j 0) s s.heap := ⟨scr, hcb, hof, hkn, hsz, hval⟩
    have K : W p l e room_1 s m #[Value.ref b] below meth c s₁.heap [] 0 0 (lw_Z below #[Value.ref b] s) (entryFrame m ([Value.ref b] : List Value).toArray 8) := by
      rw [hh0]
      exact whole_start l hst hbd ⟨B.exec, B.bytes, B.returns, hml, hown, hts, hX, hbl, B.notSynchronized, hgv⟩
    obtain ⟨t, a1, o, b1, b2, b3⟩ := K s₁ rfl X₀
    exact ⟨t, o, a1, b1, b2, b3⟩
theorem lw_pre_spec {args : Array Value} {s : State} (h : (Jvm.Cond.and given_1 narrow_1).before args s = true) (hr : rest_1_c.before args s = true) : ∃ (b : Addr) (xs : List Int32), lw_P b xs args s := by
  have hs := flat_of_before _ h
  have hq := flat_of_before _ hr
  have hc : (Cond.count 1).before args s = true := hs _ (by decide +kernel)
  have harr : (Cond.arrayOf (.arg 0) .int).before args s = true := hs _ (by decide +kernel)
  have hle : (Cond.le (.length (.arg 0)) (.int 3072)).before args s = true := hs _ (by decide +kernel)
  have hlen : (Cond.isInt (.length (.arg 0))).before args s = true := hq _ (by decide +kernel)
  have hall : (Cond.all (.arg 0) (.isInt (.elem (.arg 0) (.index 0)))).before args s = true := hq _ (by decide +kernel)
  obtain ⟨b, xs, hb, hx⟩ := State.ints_of_pre rfl harr hlen hall
  have hsm : xs.length < 2 ^ 31 := hx.choose_spec.2.2.2
  have hev : (Term.length (.arg 0)).eval args s none [] s = some (.int xs.length.toInt32) := hx.length_eval hb
  have hv := Cond.le_ints hev (show (Term.int 3072).eval args s none [] s = some (.int 3072) from rfl)
  have hd : xs.length.toInt32 ≤ 3072 := by
    simpa [Cond.before, Cond.holds, hv] using hle
  have hN : xs.length ≤ 3072 := (Int32.ofNat_le_ofNat hsm (by decide)).mp (show Int32.ofNat xs.length ≤ Int32.ofNat 3072 from hd)
  exact ⟨b, xs, Cond.one_arg hc (show args[0]? = some (.ref b) from hb), hx, hN, h⟩
theorem lw_comes (l : Launch) (hst : l.stackTraces = false) : Comes l x (Jvm.Cond.code x code maxLocals ret :: tables_1) room_1 (fun tb e args s => Calls_1 tb e args s ∧ rest_1 tb e args s ∧ Pre_1 tb e args s)
    (fun _ _ args s o t => lw_Q args s o t) := by
  intro p e ha hc hk s m args below hf hfit hheap happ hpre
  obtain ⟨b, xs, hP⟩ := lw_pre_spec hpre.2.2 hpre.2.1
  obtain ⟨k, o, h1, h2, h3, hQ⟩ := lw_walk l hst b xs p e ha hc hk s m args below hf ((Spec.applies_iff_loose hf).mp happ).1 hP trivial
  exact ⟨k, o, h1, h2, h3, hQ⟩
theorem lw_frame {s t : State} {o : Outcome} {args : Array Value} (h : Framed s o t [] 247816 8352658) :
    Framed s o t (fieldLocs frame_1_writes args s ++ arrayLocs frame_1_arrays args s ++ staticLocs frame_1_statics s) 247816 8352658 := h
theorem lw_limb (L : Cond) (hL : ∀ (args : Array Value) (s t : State), L.after args s (.returned (some (.int 1))) t = true) :
    ArmFor flags0 classFile x code maxLocals ret World_1 tables_1 room_1 Calls_1 rest_1 Pre_1
      (fun tb e a s o t => postC L tb e a s o t ∧ Framed s o t (fieldLocs frame_1_writes a s ++ arrayLocs frame_1_arrays a s ++ staticLocs frame_1_statics s) 247816 8352658) := by
  intro l hfl _ _ p e ha hc hk s m args below hf hfit hheap happ hpre
  obtain ⟨k, o, h1, h2, h3, rfl, hF⟩ := lw_comes l (by show (!l.flags.contains noTraceFlag) = false; rw [hfl]; decide +kernel) p e ha hc hk s m args below hf hfit hheap happ hpre
  exact ⟨k, _, h1, h2, h3, hL args s _, lw_frame hF⟩
theorem i_vc : Claimed_1_1 ∧ Claimed_1_2 := ⟨lw_limb limb_1_1 (fun args s t => by simp [limb_1_1, Cond.after, Cond.holds, Cond.value]), lw_limb limb_1_2 (fun args s t => Cond.after_iff.mpr (by
  first | (rw [show limb_1_2 = Cond.eq .result (.int 1) from rfl, Cond.eq_ints (x := 1) (y := 1) rfl rfl]; simp; done) | (simp [limb_1_2, Cond.value, Term.eval]; done)))⟩
