/-! State: its word, its size, its result -/
abbrev rmN (f lo : Nat) : Room := { frames := f, cells := 0, slots := 0, locals := lo }
abbrev ix (i : Int32) : Nat := i.toNatClampNeg
def jshl (w : Int64) (k : Int32) : Int64 := w <<< (k.toInt64 &&& 63)
def jushr (w : Int64) (k : Int32) : Int64 := (w.toUInt64 >>> (k.toInt64.toUInt64 &&& Int64.toUInt64 63)).toInt64
def jish (w : Int32) (k : Int32) : Int32 := w <<< (k &&& 31)
def jiu (w : Int32) (k : Int32) : Int32 := (w.toUInt32 >>> (k.toUInt32 &&& Int32.toUInt32 31)).toInt32
theorem s2_id {α : Type} (f : Nat → Nat → α) (a k : Nat) : s2 f a k (f a k) = f := by
  funext b j
  unfold s2
  split
  · rename_i h
    rw [h.1, h.2]
  · rfl
theorem s2_s2 {α : Type} (f : Nat → Nat → α) (a k : Nat) (v w : α) : s2 (s2 f a k v) a k w = s2 f a k w := by
  funext b j
  unfold s2
  split
  · rfl
  · rfl
theorem pf_i {z z2 : Int32} {g : GM} {I I2 : MI} {J J2 : MJ} (h1 : z = z2) (h2 : I = I2) (h3 : J = J2) : PF (some (.int z2)) g I2 J2 (some (.int z)) g I J := by
  subst h1; subst h2; subst h3
  exact ⟨rfl, rfl, rfl, rfl⟩
theorem pf_l {z z2 : Int64} {g : GM} {I I2 : MI} {J J2 : MJ} (h1 : z = z2) (h2 : I = I2) (h3 : J = J2) : PF (some (.long z2)) g I2 J2 (some (.long z)) g I J := by
  subst h1; subst h2; subst h3
  exact ⟨rfl, rfl, rfl, rfl⟩
theorem pf_v {g : GM} {I I2 : MI} {J J2 : MJ} (h2 : I = I2) (h3 : J = J2) : PF none g I2 J2 none g I J := by
  subst h2; subst h3
  exact ⟨rfl, rfl, rfl, rfl⟩
def chReg (code a b : Int32) (w : Int64) : Int64 × Int32 :=
  if code = 0 then (w, w.toInt32) else if code = 1 then (a.toInt64, 0) else if code = 2 then (a.toInt64, w.toInt32) else if code = 3 then (if w.toInt32 = a then (b.toInt64, 1) else (w, 0)) else ((w.toInt32 + a).toInt64, w.toInt32)
def insW (w : Int64) (p nm : Int32) : Int64 := ((w &&& (jshl 1 (4 * p) - 1)) ||| jshl nm.toInt64 (4 * p)) ||| jshl (jshl (jushr w (4 * p)) (4 * p)) 4
def remW (w : Int64) (p : Int32) : Int64 := (w &&& (jshl 1 (4 * p) - 1)) ||| jshl (jushr (jushr w (4 * p)) 4) (4 * p)
def remN (w : Int64) (p : Int32) : Int32 := (jushr w (4 * p)).toInt32 &&& 15
def plc (av : Nat → Int32) (number size : Int32) : Nat → Int32 → Int64 → Int32
  | 0, place, _ => place
  | n + 1, place, names => if size ≤ place then place else if number ≤ av (ix (names.toInt32 &&& 15)) then place else plc av number size n (place + 1) (jushr names 4)
def chSet (code nm : Int32) (w : Int64) : Int64 × Int32 :=
  if code = 0 then (w ||| jshl 1 nm, if w &&& jshl 1 nm = 0 then 1 else 0) else if code = 1 then (w &&& (jshl 1 nm ^^^ (-1)), if w &&& jshl 1 nm = 0 then 0 else 1) else (w, if w &&& jshl 1 nm = 0 then 0 else 1)
def NOTH : Int32 := -2147483648
def mapH (a : Int32) (w : Int64) : Int32 := (jushr w (5 * (a &&& 7))).toInt32 &&& 31
def chMap (code a b nm : Int32) (bv : Nat → Int32) (w : Int64) : Int64 × Int32 :=
  (let w1 := if code = 1 then w else w &&& (jshl 31 (5 * (a &&& 7)) ^^^ (-1))
   if code = 0 ∧ b ≠ NOTH then w1 ||| jshl (16 ||| nm).toInt64 (5 * (a &&& 7)) else w1,
   if mapH a w &&& 16 = 0 then NOTH else bv (ix (mapH a w &&& 15)))
def chSeq (kind code a nm : Int32) (av : Nat → Int32) (w : Int64) (sz : Int32) : Int64 × Int32 × Int32 :=
  if code = 0 then (insW w (if kind = 4 then plc av a sz 17 0 w else sz) nm, sz + 1, 0)
  else if code = 1 then (if 0 < sz then (remW w (if kind = 2 then sz - 1 else 0), sz - 1, av (ix (remN w (if kind = 2 then sz - 1 else 0)))) else (w, sz, NOTH))
  else (w, sz, sz)
/-- word, size, result behind an operation -/
def chg (kind code a b nm : Int32) (av bv : Nat → Int32) (w : Int64) (sz : Int32) : Int64 × Int32 × Int32 :=
  if kind = 0 then ((chReg code a b w).1, sz, (chReg code a b w).2) else if kind = 3 then ((chSet code nm w).1, sz, (chSet code nm w).2) else if kind = 5 then ((chMap code a b nm bv w).1, sz, (chMap code a b nm bv w).2) else chSeq kind code a nm av w sz
theorem i32_of {x : Int32} {n : Nat} (h : x.toInt = n) (hn : n < 2 ^ 31) : x = nI n := Int32.toInt_inj.mp (by rw [h, nI_toInt hn])
theorem tsw3 {x : Int32} (h0 : x ≠ 0) (h1 : x ≠ 1) (h2 : x ≠ 2) (h3 : x ≠ 3) : x.toInt < 0 ∨ 3 < x.toInt := by
  rcases Int.lt_or_le x.toInt 0 with h | h
  · exact Or.inl h
  · right
    rcases Int.lt_or_le 3 x.toInt with h9 | h9
    · exact h9
    · exfalso
      have hx : x.toInt = 0 ∨ x.toInt = 1 ∨ x.toInt = 2 ∨ x.toInt = 3 := by omega
      rcases hx with e | e | e | e
      · exact h0 (i32_of (n := 0) e (by decide))
      · exact h1 (i32_of (n := 1) e (by decide))
      · exact h2 (i32_of (n := 2) e (by decide))
      · exact h3 (i32_of (n := 3) e (by decide))
theorem lcmp0 {w : Int64} : lg_cmp w 0 = 0 ↔ w = 0 := by
  unfold lg_cmp
  constructor
  · intro h
    split at h
    · cases h
    · split at h
      · assumption
      · cases h
  · intro h
    subst h
    decide
theorem lcmpE {v w : Int64} : lg_cmp v w = 0 ↔ v = w := by
  unfold lg_cmp
  constructor
  · intro h
    split at h
    · cases h
    · split at h
      · assumption
      · cases h
  · intro h
    subst h
    rw [if_neg (by simp [Int64.lt_iff_toInt_lt]), if_pos rfl]
theorem lsw2 {x : Int32} {d o0 o1 : Int} (h0 : x ≠ 0) (h1 : x ≠ 1) : Op.lookupswitch.offset [(0, o0), (1, o1)] d x.toInt = d := by
  have e0 : x.toInt ≠ 0 := fun e => h0 (i32_of (n := 0) e (by decide))
  have e1 : x.toInt ≠ 1 := fun e => h1 (i32_of (n := 1) e (by decide))
  simp [Op.lookupswitch.offset, e0, e1, Ne.symm e0, Ne.symm e1]
theorem lsw3 {x : Int32} {d o0 o1 o2 : Int} (h0 : x ≠ 0) (h1 : x ≠ 3) (h2 : x ≠ 5) : Op.lookupswitch.offset [(0, o0), (3, o1), (5, o2)] d x.toInt = d := by
  have e0 : x.toInt ≠ 0 := fun e => h0 (i32_of (n := 0) e (by decide))
  have e1 : x.toInt ≠ 3 := fun e => h1 (i32_of (n := 3) e (by decide))
  have e2 : x.toInt ≠ 5 := fun e => h2 (i32_of (n := 5) e (by decide))
  simp [Op.lookupswitch.offset, e0, e1, e2, Ne.symm e0, Ne.symm e1, Ne.symm e2]
theorem sh_ne {g : GM} {a b c d n m : Nat} (h1 : g.1 a = (c, n)) (h2 : g.1 b = (d, m)) (h : c ≠ d) : a ≠ b := fun e => by
  subst e
  rw [h1] at h2
  exact h (congrArg Prod.fst h2)
theorem c_St_become (l : Launch) (D : va_G) (g : GM) (I : MI) (J : MJ) {a n : Nat} (w : Int64) (k : Int32) (hs : g.1 a = (2, n)) : Ct l ySt_become bSt_become 4 none (rmN 0 0) D [.ref a, .long w, .int k] g I J (PF none g (s2 I a 1 k) (s2 J a 0 w)) := by
  refine Ct.of (by decide) (ble rfl) [some (.ref a), some (.long w), none, some (.int k)] rfl ?_
  intro x C M
  refine v_aload_n C 0 dSt_become_0 rfl rfl ?_
  refine v_lload_n C 1 dSt_become_1 rfl rfl ?_
  refine v_putl C cfSt (k := 0) (by assumption) rfl w65 rfl rfl rfl dSt_become_2 ?_
  refine v_aload_n C 0 dSt_become_5 rfl rfl ?_
  refine v_iload_n C 3 dSt_become_6 rfl rfl ?_
  refine v_puti C cfSt (k := 1) (by assumption) rfl w67 rfl rfl rfl dSt_become_7 ?_
  exact v_vret C M dSt_become_10 (ble rfl) (ble rfl) ⟨rfl, rfl, rfl, rfl⟩
theorem c_St_changeRegister (l : Launch) (D : va_G) (g : GM) (I : MI) (J : MJ) {a n o m : Nat} (hs : g.1 a = (2, n)) (ho : g.1 o = (0, m)) : Ct l ySt_changeRegister bSt_changeRegister 3 (some .int) (rmN 0 0) D [.ref a, .ref o] g I J (PF (some (.int (chReg (I o 1) (I o 2) (I o 3) (J a 0)).2)) g I (s2 J a 0 (chReg (I o 1) (I o 2) (I o 3) (J a 0)).1)) := by
  refine Ct.of (by decide) (ble rfl) [some (.ref a), some (.ref o), none] rfl ?_
  intro x C M
  refine v_aload_n C 0 dSt_changeRegister_0 rfl rfl ?_
  refine v_getl C cfSt (k := 0) (by assumption) rfl w65 dSt_changeRegister_1 ?_
  refine v_l2i C dSt_changeRegister_4 ?_
  refine v_istore_n C 2 dSt_changeRegister_5 rfl (ble rfl) rfl ?_
  refine v_aload_n C 1 dSt_changeRegister_6 rfl rfl ?_
  refine v_geti C cfOp (k := 1) (by assumption) rfl w353 dSt_changeRegister_7 ?_
  by_cases h0 : I o 1 = 0
  · refine v_tableIn C 40 dSt_changeRegister_10 (by rw [h0]; decide) (by rw [h0]; decide) (by rw [h0]; rfl) (by decide) ?_
    refine v_iload_n C 2 dSt_changeRegister_40 rfl rfl ?_
    exact v_iret C M dSt_changeRegister_41 (ble rfl) (ble rfl) (pf_i (by simp [chReg, h0]) rfl (by simp [chReg, h0, s2_id]))
  by_cases h1 : I o 1 = 1
  · refine v_tableIn C 42 dSt_changeRegister_10 (by rw [h1]; decide) (by rw [h1]; decide) (by rw [h1]; rfl) (by decide) ?_
    refine v_aload_n C 0 dSt_changeRegister_42 rfl rfl ?_
    refine v_aload_n C 1 dSt_changeRegister_43 rfl rfl ?_
    refine v_geti C cfOp (k := 2) (by assumption) rfl w355 dSt_changeRegister_44 ?_
    refine v_i2l C dSt_changeRegister_47 ?_
    refine v_putl C cfSt (k := 0) (by assumption) rfl w65 rfl rfl rfl dSt_changeRegister_48 ?_
    refine v_iconst C 0 dSt_changeRegister_51 (by decide) ?_
    exact v_iret C M dSt_changeRegister_52 (ble rfl) (ble rfl) (pf_i (by simp [chReg, h1]) rfl (by simp [chReg, h1]))
  by_cases h2 : I o 1 = 2
  · refine v_tableIn C 53 dSt_changeRegister_10 (by rw [h2]; decide) (by rw [h2]; decide) (by rw [h2]; rfl) (by decide) ?_
    refine v_aload_n C 0 dSt_changeRegister_53 rfl rfl ?_
    refine v_aload_n C 1 dSt_changeRegister_54 rfl rfl ?_
    refine v_geti C cfOp (k := 2) (by assumption) rfl w355 dSt_changeRegister_55 ?_
    refine v_i2l C dSt_changeRegister_58 ?_
    refine v_putl C cfSt (k := 0) (by assumption) rfl w65 rfl rfl rfl dSt_changeRegister_59 ?_
    refine v_iload_n C 2 dSt_changeRegister_62 rfl rfl ?_
    exact v_iret C M dSt_changeRegister_63 (ble rfl) (ble rfl) (pf_i (by simp [chReg, h2]) rfl (by simp [chReg, h2]))
  by_cases h3 : I o 1 = 3
  · refine v_tableIn C 64 dSt_changeRegister_10 (by rw [h3]; decide) (by rw [h3]; decide) (by rw [h3]; rfl) (by decide) ?_
    refine v_iload_n C 2 dSt_changeRegister_64 rfl rfl ?_
    refine v_aload_n C 1 dSt_changeRegister_65 rfl rfl ?_
    refine v_geti C cfOp (k := 2) (by assumption) rfl w355 dSt_changeRegister_66 ?_
    refine v_icmp_eq C 74 dSt_changeRegister_69 (by decide) (fun c69 => ?_) (fun c69 => ?_)
    · refine v_aload_n C 0 dSt_changeRegister_74 rfl rfl ?_
      refine v_aload_n C 1 dSt_changeRegister_75 rfl rfl ?_
      refine v_geti C cfOp (k := 3) (by assumption) rfl w357 dSt_changeRegister_76 ?_
      refine v_i2l C dSt_changeRegister_79 ?_
      refine v_putl C cfSt (k := 0) (by assumption) rfl w65 rfl rfl rfl dSt_changeRegister_80 ?_
      refine v_iconst C 1 dSt_changeRegister_83 (by decide) ?_
      exact v_iret C M dSt_changeRegister_84 (ble rfl) (ble rfl) (pf_i (by simp [chReg, h3, c69]) rfl (by simp [chReg, h3, c69]))
    · refine v_iconst C 0 dSt_changeRegister_72 (by decide) ?_
      exact v_iret C M dSt_changeRegister_73 (ble rfl) (ble rfl) (pf_i (by simp [chReg, h3, c69]) rfl (by simp [chReg, h3, c69, s2_id]))
  · refine v_tableOut C 85 dSt_changeRegister_10 (tsw3 h0 h1 h2 h3) (by decide) ?_
    refine v_aload_n C 0 dSt_changeRegister_85 rfl rfl ?_
    refine v_iload_n C 2 dSt_changeRegister_86 rfl rfl ?_
    refine v_aload_n C 1 dSt_changeRegister_87 rfl rfl ?_
    refine v_geti C cfOp (k := 2) (by assumption) rfl w355 dSt_changeRegister_88 ?_
    refine v_iadd C dSt_changeRegister_91 ?_
    refine v_i2l C dSt_changeRegister_92 ?_
    refine v_putl C cfSt (k := 0) (by assumption) rfl w65 rfl rfl rfl dSt_changeRegister_93 ?_
    refine v_iload_n C 2 dSt_changeRegister_96 rfl rfl ?_
    exact v_iret C M dSt_changeRegister_97 (ble rfl) (ble rfl) (pf_i (by simp [chReg, h0, h1, h2, h3]) rfl (by simp [chReg, h0, h1, h2, h3]))
theorem c_St_insertAt (l : Launch) (D : va_G) (g : GM) (I : MI) (J : MJ) {a n : Nat} (p nm : Int32) (hs : g.1 a = (2, n)) : Ct l ySt_insertAt bSt_insertAt 8 none (rmN 0 0) D [.ref a, .int p, .int nm] g I J (PF none g (s2 I a 1 (I a 1 + 1)) (s2 J a 0 (insW (J a 0) p nm))) := by
  refine Ct.of (by decide) (ble rfl) [some (.ref a), some (.int p), some (.int nm), none, none, none, none, none] rfl ?_
  intro x C M
  refine v_iconst C 4 dSt_insertAt_0 (by decide) ?_
  refine v_iload_n C 1 dSt_insertAt_1 rfl rfl ?_
  refine v_imul C dSt_insertAt_2 ?_
  refine v_istore_n C 3 dSt_insertAt_3 rfl (ble rfl) rfl ?_
  refine v_aload_n C 0 dSt_insertAt_4 rfl rfl ?_
  refine v_getl C cfSt (k := 0) (by assumption) rfl w65 dSt_insertAt_5 ?_
  refine v_lconst C 1 dSt_insertAt_8 (by decide) ?_
  refine v_iload_n C 3 dSt_insertAt_9 rfl rfl ?_
  refine v_lshl C dSt_insertAt_10 ?_
  refine v_lconst C 1 dSt_insertAt_11 (by decide) ?_
  refine v_lsub C dSt_insertAt_12 ?_
  refine v_land C dSt_insertAt_13 ?_
  refine v_lstore C dSt_insertAt_14 (ble rfl) rfl ?_
  refine v_aload_n C 0 dSt_insertAt_16 rfl rfl ?_
  refine v_getl C cfSt (k := 0) (by assumption) rfl w65 dSt_insertAt_17 ?_
  refine v_iload_n C 3 dSt_insertAt_20 rfl rfl ?_
  refine v_lushr C dSt_insertAt_21 ?_
  refine v_iload_n C 3 dSt_insertAt_22 rfl rfl ?_
  refine v_lshl C dSt_insertAt_23 ?_
  refine v_iconst C 4 dSt_insertAt_24 (by decide) ?_
  refine v_lshl C dSt_insertAt_25 ?_
  refine v_lstore C dSt_insertAt_26 (ble rfl) rfl ?_
  refine v_aload_n C 0 dSt_insertAt_28 rfl rfl ?_
  refine v_lload C dSt_insertAt_29 rfl ?_
  refine v_iload_n C 2 dSt_insertAt_31 rfl rfl ?_
  refine v_i2l C dSt_insertAt_32 ?_
  refine v_iload_n C 3 dSt_insertAt_33 rfl rfl ?_
  refine v_lshl C dSt_insertAt_34 ?_
  refine v_lor C dSt_insertAt_35 ?_
  refine v_lload C dSt_insertAt_36 rfl ?_
  refine v_lor C dSt_insertAt_38 ?_
  refine v_putl C cfSt (k := 0) (by assumption) rfl w65 rfl rfl rfl dSt_insertAt_39 ?_
  refine v_aload_n C 0 dSt_insertAt_42 rfl rfl ?_
  refine v_dup C dSt_insertAt_43 rfl ?_
  refine v_geti C cfSt (k := 1) (by assumption) rfl w67 dSt_insertAt_44 ?_
  refine v_iconst C 1 dSt_insertAt_47 (by decide) ?_
  refine v_iadd C dSt_insertAt_48 ?_
  refine v_puti C cfSt (k := 1) (by assumption) rfl w67 rfl rfl rfl dSt_insertAt_49 ?_
  exact v_vret C M dSt_insertAt_52 (ble rfl) (ble rfl) (pf_v rfl rfl)
theorem c_St_removeAt (l : Launch) (D : va_G) (g : GM) (I : MI) (J : MJ) {a n : Nat} (p : Int32) (hs : g.1 a = (2, n)) : Ct l ySt_removeAt bSt_removeAt 8 (some .int) (rmN 0 0) D [.ref a, .int p] g I J (PF (some (.int (remN (J a 0) p))) g (s2 I a 1 (I a 1 - 1)) (s2 J a 0 (remW (J a 0) p))) := by
  refine Ct.of (by decide) (ble rfl) [some (.ref a), some (.int p), none, none, none, none, none, none] rfl ?_
  intro x C M
  refine v_iconst C 4 dSt_removeAt_0 (by decide) ?_
  refine v_iload_n C 1 dSt_removeAt_1 rfl rfl ?_
  refine v_imul C dSt_removeAt_2 ?_
  refine v_istore_n C 2 dSt_removeAt_3 rfl (ble rfl) rfl ?_
  refine v_aload_n C 0 dSt_removeAt_4 rfl rfl ?_
  refine v_getl C cfSt (k := 0) (by assumption) rfl w65 dSt_removeAt_5 ?_
  refine v_iload_n C 2 dSt_removeAt_8 rfl rfl ?_
  refine v_lushr C dSt_removeAt_9 ?_
  refine v_l2i C dSt_removeAt_10 ?_
  refine v_bipush C 15 dSt_removeAt_11 (by decide) ?_
  refine v_iand C dSt_removeAt_13 ?_
  refine v_istore_n C 3 dSt_removeAt_14 rfl (ble rfl) rfl ?_
  refine v_aload_n C 0 dSt_removeAt_15 rfl rfl ?_
  refine v_getl C cfSt (k := 0) (by assumption) rfl w65 dSt_removeAt_16 ?_
  refine v_lconst C 1 dSt_removeAt_19 (by decide) ?_
  refine v_iload_n C 2 dSt_removeAt_20 rfl rfl ?_
  refine v_lshl C dSt_removeAt_21 ?_
  refine v_lconst C 1 dSt_removeAt_22 (by decide) ?_
  refine v_lsub C dSt_removeAt_23 ?_
  refine v_land C dSt_removeAt_24 ?_
  refine v_lstore C dSt_removeAt_25 (ble rfl) rfl ?_
  refine v_aload_n C 0 dSt_removeAt_27 rfl rfl ?_
  refine v_getl C cfSt (k := 0) (by assumption) rfl w65 dSt_removeAt_28 ?_
  refine v_iload_n C 2 dSt_removeAt_31 rfl rfl ?_
  refine v_lushr C dSt_removeAt_32 ?_
  refine v_iconst C 4 dSt_removeAt_33 (by decide) ?_
  refine v_lushr C dSt_removeAt_34 ?_
  refine v_iload_n C 2 dSt_removeAt_35 rfl rfl ?_
  refine v_lshl C dSt_removeAt_36 ?_
  refine v_lstore C dSt_removeAt_37 (ble rfl) rfl ?_
  refine v_aload_n C 0 dSt_removeAt_39 rfl rfl ?_
  refine v_lload C dSt_removeAt_40 rfl ?_
  refine v_lload C dSt_removeAt_42 rfl ?_
  refine v_lor C dSt_removeAt_44 ?_
  refine v_putl C cfSt (k := 0) (by assumption) rfl w65 rfl rfl rfl dSt_removeAt_45 ?_
  refine v_aload_n C 0 dSt_removeAt_48 rfl rfl ?_
  refine v_dup C dSt_removeAt_49 rfl ?_
  refine v_geti C cfSt (k := 1) (by assumption) rfl w67 dSt_removeAt_50 ?_
  refine v_iconst C 1 dSt_removeAt_53 (by decide) ?_
  refine v_isub C dSt_removeAt_54 ?_
  refine v_puti C cfSt (k := 1) (by assumption) rfl w67 rfl rfl rfl dSt_removeAt_55 ?_
  refine v_iload_n C 3 dSt_removeAt_58 rfl rfl ?_
  exact v_iret C M dSt_removeAt_59 (ble rfl) (ble rfl) (pf_i rfl rfl rfl)
/-- the operations of an object: the row of references at ao, the cells from ob on -/
def OpsAt (g : GM) (ao ob : Nat) : Prop := g.1 ao = (13, 16) ∧ ∀ i, i < 16 → g.2.1 ao i = some (ob + i) ∧ g.1 (ob + i) = (0, 0)
theorem ops_15 {g : GM} {ao ob : Nat} (h : OpsAt g ao ob) (y : Int32) : ∃ q, q < 16 ∧ ix (y &&& 15) = q ∧ vp_in (y &&& 15) 16 ∧ g.2.1 ao (y &&& 15).toNatClampNeg = some (ob + q) ∧ g.1 (ob + q) = (0, 0) := by
  obtain ⟨q, hq, e⟩ := pk_andE y (m := 15) 4 (by decide)
  have e2 : (y &&& 15).toNatClampNeg = q := by rw [e]; exact nI_clamp (by omega)
  refine ⟨q, hq, e2, by rw [e]; exact vp_in_nI hq (by decide), by rw [e2]; exact (h.2 q hq).1, (h.2 q hq).2⟩
theorem c_St_placeInHeap (l : Launch) (D : va_G) (g : GM) (I : MI) (J : MJ) {a n ao ob sz : Nat} (k : Int32) (hs : g.1 a = (2, n)) (hO : OpsAt g ao ob) (hz : I a 1 = nI sz) (hz2 : sz ≤ 16) : Ct l ySt_placeInHeap bSt_placeInHeap 6 (some .int) (rmN 0 0) D [.ref a, .int k, .ref ao] g I J (PF (some (.int (plc (fun i => I (ob + i) 2) k (I a 1) 17 0 (J a 0)))) g I J) := by
  refine Ct.of (by decide) (ble rfl) [some (.ref a), some (.int k), some (.ref ao), none, none, none] rfl ?_
  intro x C M
  have hA := hO.1
  refine v_iconst C 0 dSt_placeInHeap_0 (by decide) ?_
  refine v_istore_n C 3 dSt_placeInHeap_1 rfl (ble rfl) rfl ?_
  refine v_aload_n C 0 dSt_placeInHeap_2 rfl rfl ?_
  refine v_getl C cfSt (k := 0) (by assumption) rfl w65 dSt_placeInHeap_3 ?_
  refine v_lstore C dSt_placeInHeap_6 (ble rfl) rfl ?_
  have loop : ∀ (m j : Nat) (names : Int64), j ≤ sz → sz + 1 ≤ j + m → plc (fun i => I (ob + i) 2) k (I a 1) m (nI j) names = plc (fun i => I (ob + i) 2) k (I a 1) 17 0 (J a 0) → V x g 0 0 I J 8 [some (.ref a), some (.int k), some (.ref ao), some (.int (nI j)), some (.long names), none] [] := by
    intro m
    induction m with
    | zero =>
      intro j names h1 h2
      exact absurd h2 (by omega)
    | succ m ih =>
      intro j names h1 h2 he
      refine v_iload_n C 3 dSt_placeInHeap_8 rfl rfl ?_
      refine v_aload_n C 0 dSt_placeInHeap_9 rfl rfl ?_
      refine v_geti C cfSt (k := 1) (by assumption) rfl w67 dSt_placeInHeap_10 ?_
      refine v_icmp_ge C 43 dSt_placeInHeap_13 (by decide) (fun c13 => ?_) (fun c13 => ?_)
      · refine v_iload_n C 3 dSt_placeInHeap_43 rfl rfl ?_
        exact v_iret C M dSt_placeInHeap_44 (ble rfl) (ble rfl) (pf_i (by rw [← he]; simp [plc, c13]) rfl rfl)
      · refine v_aload_n C 2 dSt_placeInHeap_16 rfl rfl ?_
        refine v_lload C dSt_placeInHeap_17 rfl ?_
        refine v_l2i C dSt_placeInHeap_19 ?_
        refine v_bipush C 15 dSt_placeInHeap_20 (by decide) ?_
        refine v_iand C dSt_placeInHeap_22 ?_
        obtain ⟨q, hq, e1, e2, e3, e4⟩ := ops_15 hO names.toInt32
        refine v_pald C (by assumption) (by assumption) (by assumption) dSt_placeInHeap_23 ?_
        refine v_geti C cfOp (k := 2) (by assumption) rfl w355 dSt_placeInHeap_24 ?_
        refine v_iload_n C 1 dSt_placeInHeap_27 rfl rfl ?_
        refine v_icmp_ge C 43 dSt_placeInHeap_28 (by decide) (fun c28 => ?_) (fun c28 => ?_)
        · refine v_iload_n C 3 dSt_placeInHeap_43 rfl rfl ?_
          exact v_iret C M dSt_placeInHeap_44 (ble rfl) (ble rfl) (pf_i (by rw [← he]; simp [plc, c13, e1, c28]) rfl rfl)
        · have hj : j < sz := by
            rcases Nat.lt_or_ge j sz with h | h
            · exact h
            · exact absurd (by rw [hz]; exact nI_le h (by omega)) c13
          refine v_lload C dSt_placeInHeap_31 rfl ?_
          refine v_iconst C 4 dSt_placeInHeap_33 (by decide) ?_
          refine v_lushr C dSt_placeInHeap_34 ?_
          refine v_lstore C dSt_placeInHeap_35 (ble rfl) rfl ?_
          refine v_iinc C (nI (j + 1)) dSt_placeInHeap_37 rfl (nI_1 j) (ble rfl) rfl ?_
          refine v_goto C 8 dSt_placeInHeap_40 (by decide) ?_
          refine ih (j + 1) _ hj (by omega) ?_
          rw [← he]
          simp [plc, c13, e1, c28, nI_1, jushr]
  exact loop 17 0 (J a 0) (Nat.zero_le _) (by omega) rfl
theorem c_St_changeSet (l : Launch) (D : va_G) (g : GM) (I : MI) (J : MJ) {a n o m : Nat} (hs : g.1 a = (2, n)) (ho : g.1 o = (0, m)) : Ct l ySt_changeSet bSt_changeSet 5 (some .int) (rmN 0 0) D [.ref a, .ref o] g I J (PF (some (.int (chSet (I o 1) (I o 4) (J a 0)).2)) g I (s2 J a 0 (chSet (I o 1) (I o 4) (J a 0)).1)) := by
  refine Ct.of (by decide) (ble rfl) [some (.ref a), some (.ref o), none, none, none] rfl ?_
  intro x C M
  refine v_lconst C 1 dSt_changeSet_0 (by decide) ?_
  refine v_aload_n C 1 dSt_changeSet_1 rfl rfl ?_
  refine v_geti C cfOp (k := 4) (by assumption) rfl w359 dSt_changeSet_2 ?_
  refine v_lshl C dSt_changeSet_5 ?_
  refine v_lstore_n C 2 dSt_changeSet_6 rfl (ble rfl) rfl ?_
  refine v_aload_n C 0 dSt_changeSet_7 rfl rfl ?_
  refine v_getl C cfSt (k := 0) (by assumption) rfl w65 dSt_changeSet_8 ?_
  refine v_lload_n C 2 dSt_changeSet_11 rfl rfl ?_
  refine v_land C dSt_changeSet_12 ?_
  refine v_lconst C 0 dSt_changeSet_13 (by decide) ?_
  refine v_lcmp C dSt_changeSet_14 ?_
  have key : ∀ z : Int32, z = (if J a 0 &&& jshl 1 (I o 4) = 0 then 0 else 1) → V x g 0 0 I J 23 [some (.ref a), some (.ref o), some (.long (jshl 1 (I o 4))), none, none] [.int z] := by
    intro z ez
    refine v_istore C dSt_changeSet_23 (ble rfl) rfl ?_
    refine v_aload_n C 1 dSt_changeSet_25 rfl rfl ?_
    refine v_geti C cfOp (k := 1) (by assumption) rfl w353 dSt_changeSet_26 ?_
    by_cases h0 : I o 1 = 0
    · refine v_lookup C 56 dSt_changeSet_29 (by decide) (by rw [h0]) (by decide) ?_
      refine v_aload_n C 0 dSt_changeSet_56 rfl rfl ?_
      refine v_dup C dSt_changeSet_57 rfl ?_
      refine v_getl C cfSt (k := 0) (by assumption) rfl w65 dSt_changeSet_58 ?_
      refine v_lload_n C 2 dSt_changeSet_61 rfl rfl ?_
      refine v_lor C dSt_changeSet_62 ?_
      refine v_putl C cfSt (k := 0) (by assumption) rfl w65 rfl rfl rfl dSt_changeSet_63 ?_
      refine v_iload C dSt_changeSet_66 rfl ?_
      refine v_if_eq C 75 dSt_changeSet_68 (by decide) (fun c68 => ?_) (fun c68 => ?_)
      · refine v_iconst C 1 dSt_changeSet_75 (by decide) ?_
        exact v_iret C M dSt_changeSet_76 (ble rfl) (ble rfl) (pf_i (by rw [ez] at c68; split at c68 <;> simp_all [chSet]) rfl (by simp [chSet, h0]))
      · refine v_iconst C 0 dSt_changeSet_71 (by decide) ?_
        refine v_goto C 76 dSt_changeSet_72 (by decide) ?_
        exact v_iret C M dSt_changeSet_76 (ble rfl) (ble rfl) (pf_i (by rw [ez] at c68; split at c68 <;> simp_all [chSet]) rfl (by simp [chSet, h0]))
    by_cases h1 : I o 1 = 1
    · refine v_lookup C 77 dSt_changeSet_29 (by decide) (by rw [h1]) (by decide) ?_
      refine v_aload_n C 0 dSt_changeSet_77 rfl rfl ?_
      refine v_dup C dSt_changeSet_78 rfl ?_
      refine v_getl C cfSt (k := 0) (by assumption) rfl w65 dSt_changeSet_79 ?_
      refine v_lload_n C 2 dSt_changeSet_82 rfl rfl ?_
      refine v_ldc2 C w289 dSt_changeSet_83 ?_
      refine v_lxor C dSt_changeSet_86 ?_
      refine v_land C dSt_changeSet_87 ?_
      refine v_putl C cfSt (k := 0) (by assumption) rfl w65 rfl rfl rfl dSt_changeSet_88 ?_
      refine v_iload C dSt_changeSet_91 rfl ?_
      refine v_if_eq C 100 dSt_changeSet_93 (by decide) (fun c93 => ?_) (fun c93 => ?_)
      · refine v_iconst C 0 dSt_changeSet_100 (by decide) ?_
        exact v_iret C M dSt_changeSet_101 (ble rfl) (ble rfl) (pf_i (by rw [ez] at c93; split at c93 <;> simp_all [chSet]) rfl (by simp [chSet, h1]))
      · refine v_iconst C 1 dSt_changeSet_96 (by decide) ?_
        refine v_goto C 101 dSt_changeSet_97 (by decide) ?_
        exact v_iret C M dSt_changeSet_101 (ble rfl) (ble rfl) (pf_i (by rw [ez] at c93; split at c93 <;> simp_all [chSet]) rfl (by simp [chSet, h1]))
    · refine v_lookup C 102 dSt_changeSet_29 (by decide) (lsw2 h0 h1) (by decide) ?_
      refine v_iload C dSt_changeSet_102 rfl ?_
      refine v_if_eq C 111 dSt_changeSet_104 (by decide) (fun c104 => ?_) (fun c104 => ?_)
      · refine v_iconst C 0 dSt_changeSet_111 (by decide) ?_
        exact v_iret C M dSt_changeSet_112 (ble rfl) (ble rfl) (pf_i (by rw [ez] at c104; split at c104 <;> simp_all [chSet]) rfl (by simp [chSet, h0, h1, s2_id]))
      · refine v_iconst C 1 dSt_changeSet_107 (by decide) ?_
        refine v_goto C 112 dSt_changeSet_108 (by decide) ?_
        exact v_iret C M dSt_changeSet_112 (ble rfl) (ble rfl) (pf_i (by rw [ez] at c104; split at c104 <;> simp_all [chSet]) rfl (by simp [chSet, h0, h1, s2_id]))
  refine v_if_eq C 22 dSt_changeSet_15 (by decide) (fun c15 => ?_) (fun c15 => ?_)
  · refine v_iconst C 0 dSt_changeSet_22 (by decide) ?_
    exact key 0 (by rw [if_pos]; exact lcmp0.mp c15)
  · refine v_iconst C 1 dSt_changeSet_18 (by decide) ?_
    refine v_goto C 23 dSt_changeSet_19 (by decide) ?_
    exact key 1 (by rw [if_neg]; exact fun h => c15 (lcmp0.mpr h))
theorem c_St_changeMap (l : Launch) (D : va_G) (g : GM) (I : MI) (J : MJ) {a n o m ao ob : Nat} (hs : g.1 a = (2, n)) (ho : g.1 o = (0, m)) (hO : OpsAt g ao ob) : Ct l ySt_changeMap bSt_changeMap 5 (some .int) (rmN 0 0) D [.ref a, .ref o, .ref ao] g I J (PF (some (.int (chMap (I o 1) (I o 2) (I o 3) (I o 4) (fun i => I (ob + i) 3) (J a 0)).2)) g I (s2 J a 0 (chMap (I o 1) (I o 2) (I o 3) (I o 4) (fun i => I (ob + i) 3) (J a 0)).1)) := by
  refine Ct.of (by decide) (ble rfl) [some (.ref a), some (.ref o), some (.ref ao), none, none] rfl ?_
  intro x C M
  have hA := hO.1
  refine v_iconst C 5 dSt_changeMap_0 (by decide) ?_
  refine v_aload_n C 1 dSt_changeMap_1 rfl rfl ?_
  refine v_geti C cfOp (k := 2) (by assumption) rfl w355 dSt_changeMap_2 ?_
  refine v_bipush C 7 dSt_changeMap_5 (by decide) ?_
  refine v_iand C dSt_changeMap_7 ?_
  refine v_imul C dSt_changeMap_8 ?_
  refine v_istore_n C 3 dSt_changeMap_9 rfl (ble rfl) rfl ?_
  refine v_aload_n C 0 dSt_changeMap_10 rfl rfl ?_
  refine v_getl C cfSt (k := 0) (by assumption) rfl w65 dSt_changeMap_11 ?_
  refine v_iload_n C 3 dSt_changeMap_14 rfl rfl ?_
  refine v_lushr C dSt_changeMap_15 ?_
  refine v_l2i C dSt_changeMap_16 ?_
  refine v_bipush C 31 dSt_changeMap_17 (by decide) ?_
  refine v_iand C dSt_changeMap_19 ?_
  refine v_istore C dSt_changeMap_20 (ble rfl) rfl ?_
  refine v_aload_n C 1 dSt_changeMap_22 rfl rfl ?_
  refine v_geti C cfOp (k := 1) (by assumption) rfl w353 dSt_changeMap_23 ?_
  refine v_iconst C 1 dSt_changeMap_26 (by decide) ?_
  have key2 : ∀ w2 : Int64, w2 = (chMap (I o 1) (I o 2) (I o 3) (I o 4) (fun i => I (ob + i) 3) (J a 0)).1 → V x g 0 0 I (s2 J a 0 w2) 83 [some (.ref a), some (.ref o), some (.ref ao), some (.int (5 * (I o 2 &&& 7))), some (.int (mapH (I o 2) (J a 0)))] [] := by
    intro w2 e2
    refine v_iload C dSt_changeMap_83 rfl ?_
    refine v_bipush C 16 dSt_changeMap_85 (by decide) ?_
    refine v_iand C dSt_changeMap_87 ?_
    refine v_if_ne C 96 dSt_changeMap_88 (by decide) (fun c88 => ?_) (fun c88 => ?_)
    · refine v_aload_n C 2 dSt_changeMap_96 rfl rfl ?_
      refine v_iload C dSt_changeMap_97 rfl ?_
      refine v_bipush C 15 dSt_changeMap_99 (by decide) ?_
      refine v_iand C dSt_changeMap_101 ?_
      obtain ⟨q, hq, e3, e4, e5, e6⟩ := ops_15 hO (mapH (I o 2) (J a 0))
      refine v_pald C (by assumption) (by assumption) (by assumption) dSt_changeMap_102 ?_
      refine v_geti C cfOp (k := 3) (by assumption) rfl w357 dSt_changeMap_103 ?_
      exact v_iret C M dSt_changeMap_106 (ble rfl) (ble rfl) (pf_i (by simp [chMap, c88, e3]) rfl (by rw [e2]))
    · have c88 : mapH (I o 2) (J a 0) &&& 16 = 0 := by simpa using c88
      refine v_ldc C w295 dSt_changeMap_91 ?_
      refine v_goto C 106 dSt_changeMap_93 (by decide) ?_
      exact v_iret C M dSt_changeMap_106 (ble rfl) (ble rfl) (pf_i (by simp [chMap, c88, NOTH]) rfl (by rw [e2]))
  have key : ∀ w1 : Int64, w1 = (if I o 1 = 1 then J a 0 else J a 0 &&& (jshl 31 (5 * (I o 2 &&& 7)) ^^^ (-1))) → V x g 0 0 I (s2 J a 0 w1) 48 [some (.ref a), some (.ref o), some (.ref ao), some (.int (5 * (I o 2 &&& 7))), some (.int (mapH (I o 2) (J a 0)))] [] := by
    intro w1 e1
    refine v_aload_n C 1 dSt_changeMap_48 rfl rfl ?_
    refine v_geti C cfOp (k := 1) (by assumption) rfl w353 dSt_changeMap_49 ?_
    refine v_if_ne C 83 dSt_changeMap_52 (by decide) (fun c52 => ?_) (fun c52 => ?_)
    · exact key2 w1 (by rw [e1]; simp [chMap, c52])
    · have c52 : I o 1 = 0 := by simpa using c52
      refine v_aload_n C 1 dSt_changeMap_55 rfl rfl ?_
      refine v_geti C cfOp (k := 3) (by assumption) rfl w357 dSt_changeMap_56 ?_
      refine v_ldc C w295 dSt_changeMap_59 ?_
      refine v_icmp_eq C 83 dSt_changeMap_61 (by decide) (fun c61 => ?_) (fun c61 => ?_)
      · exact key2 w1 (by rw [e1]; simp [chMap, c52, c61, NOTH])
      · refine v_aload_n C 0 dSt_changeMap_64 rfl rfl ?_
        refine v_dup C dSt_changeMap_65 rfl ?_
        refine v_getl C cfSt (k := 0) (by assumption) rfl w65 dSt_changeMap_66 ?_
        refine v_bipush C 16 dSt_changeMap_69 (by decide) ?_
        refine v_aload_n C 1 dSt_changeMap_71 rfl rfl ?_
        refine v_geti C cfOp (k := 4) (by assumption) rfl w359 dSt_changeMap_72 ?_
        refine v_ior C dSt_changeMap_75 ?_
        refine v_i2l C dSt_changeMap_76 ?_
        refine v_iload_n C 3 dSt_changeMap_77 rfl rfl ?_
        refine v_lshl C dSt_changeMap_78 ?_
        refine v_lor C dSt_changeMap_79 ?_
        refine v_putl C cfSt (k := 0) (by assumption) rfl w65 rfl rfl rfl dSt_changeMap_80 ?_
        rw [s2_s2, s2_self]
        exact key2 _ (by rw [e1]; simp [chMap, c52, NOTH, c61, jshl])
  refine v_icmp_eq C 48 dSt_changeMap_27 (by decide) (fun c27 => ?_) (fun c27 => ?_)
  · have h := key (J a 0) (by rw [if_pos c27])
    rw [s2_id] at h
    exact h
  · refine v_aload_n C 0 dSt_changeMap_30 rfl rfl ?_
    refine v_dup C dSt_changeMap_31 rfl ?_
    refine v_getl C cfSt (k := 0) (by assumption) rfl w65 dSt_changeMap_32 ?_
    refine v_ldc2 C w294 dSt_changeMap_35 ?_
    refine v_iload_n C 3 dSt_changeMap_38 rfl rfl ?_
    refine v_lshl C dSt_changeMap_39 ?_
    refine v_ldc2 C w289 dSt_changeMap_40 ?_
    refine v_lxor C dSt_changeMap_43 ?_
    refine v_land C dSt_changeMap_44 ?_
    refine v_putl C cfSt (k := 0) (by assumption) rfl w65 rfl rfl rfl dSt_changeMap_45 ?_
    exact key _ (by rw [if_neg c27]; rfl)
theorem c_St_changeSequence (l : Launch) (D : va_G) (g : GM) (I : MI) (J : MJ) {a n o m ao ob sz : Nat} (kind : Int32) (hs : g.1 a = (2, n)) (ho : g.1 o = (0, m)) (hO : OpsAt g ao ob) (hz : I a 1 = nI sz) (hz2 : sz ≤ 16) : Ct l ySt_changeSequence bSt_changeSequence 4 (some .int) (rmN 1 27) D [.ref a, .int kind, .ref o, .ref ao] g I J (PF (some (.int (chSeq kind (I o 1) (I o 2) (I o 4) (fun i => I (ob + i) 2) (J a 0) (I a 1)).2.2)) g (s2 I a 1 (chSeq kind (I o 1) (I o 2) (I o 4) (fun i => I (ob + i) 2) (J a 0) (I a 1)).2.1) (s2 J a 0 (chSeq kind (I o 1) (I o 2) (I o 4) (fun i => I (ob + i) 2) (J a 0) (I a 1)).1)) := by
  refine Ct.of (by decide) (ble rfl) [some (.ref a), some (.int kind), some (.ref o), some (.ref ao)] rfl ?_
  intro x C M
  have hA := hO.1
  refine v_aload_n C 2 dSt_changeSequence_0 rfl rfl ?_
  refine v_geti C cfOp (k := 1) (by assumption) rfl w353 dSt_changeSequence_1 ?_
  by_cases h0 : I o 1 = 0
  · refine v_lookup C 32 dSt_changeSequence_4 (by decide) (by rw [h0]) (by decide) ?_
    refine v_aload_n C 0 dSt_changeSequence_32 rfl rfl ?_
    refine v_iload_n C 1 dSt_changeSequence_33 rfl rfl ?_
    refine v_iconst C 4 dSt_changeSequence_34 (by decide) ?_
    refine v_icmp_ne C 50 dSt_changeSequence_35 (by decide) (fun c35 => ?_) (fun c35 => ?_)
    · refine v_aload_n C 0 dSt_changeSequence_50 rfl rfl ?_
      refine v_geti C cfSt (k := 1) (by assumption) rfl w67 dSt_changeSequence_51 ?_
      refine v_aload_n C 2 dSt_changeSequence_54 rfl rfl ?_
      refine v_geti C cfOp (k := 4) (by assumption) rfl w359 dSt_changeSequence_55 ?_
      refine v_cVv C (c_St_insertAt (kl x) (kD x) g I J (I a 1) (I o 4) hs) mwSt_insertAt cfSt (by assumption) w306 ws10 w304 rfl rfl (ble rfl) (ble rfl) (ble rfl) (ble rfl) (ble rfl) dSt_changeSequence_58 ?_
      refine v_iconst C 0 dSt_changeSequence_61 (by decide) ?_
      exact v_iret C M dSt_changeSequence_62 (ble rfl) (ble rfl) (pf_i (by simp [chSeq, h0]) (by simp [chSeq, h0]) (by simp [chSeq, h0, c35]))
    · have c35 : kind = 4 := by simpa using c35
      refine v_aload_n C 0 dSt_changeSequence_38 rfl rfl ?_
      refine v_aload_n C 2 dSt_changeSequence_39 rfl rfl ?_
      refine v_geti C cfOp (k := 2) (by assumption) rfl w355 dSt_changeSequence_40 ?_
      refine v_aload_n C 3 dSt_changeSequence_43 rfl rfl ?_
      refine v_cVi C (c_St_placeInHeap (kl x) (kD x) g I J (I o 2) hs hO hz hz2) mwSt_placeInHeap cfSt (by assumption) w302 ws9 w300 rfl rfl (ble rfl) (ble rfl) (ble rfl) (ble rfl) (ble rfl) dSt_changeSequence_44 ?_
      refine v_goto C 54 dSt_changeSequence_47 (by decide) ?_
      refine v_aload_n C 2 dSt_changeSequence_54 rfl rfl ?_
      refine v_geti C cfOp (k := 4) (by assumption) rfl w359 dSt_changeSequence_55 ?_
      refine v_cVv C (c_St_insertAt (kl x) (kD x) g I J _ (I o 4) hs) mwSt_insertAt cfSt (by assumption) w306 ws10 w304 rfl rfl (ble rfl) (ble rfl) (ble rfl) (ble rfl) (ble rfl) dSt_changeSequence_58 ?_
      refine v_iconst C 0 dSt_changeSequence_61 (by decide) ?_
      exact v_iret C M dSt_changeSequence_62 (ble rfl) (ble rfl) (pf_i (by simp [chSeq, h0]) (by simp [chSeq, h0]) (by simp [chSeq, h0, c35]))
  by_cases h1 : I o 1 = 1
  · refine v_lookup C 63 dSt_changeSequence_4 (by decide) (by rw [h1]) (by decide) ?_
    refine v_aload_n C 0 dSt_changeSequence_63 rfl rfl ?_
    refine v_geti C cfSt (k := 1) (by assumption) rfl w67 dSt_changeSequence_64 ?_
    refine v_if_gt C 73 dSt_changeSequence_67 (by decide) (fun c67 => ?_) (fun c67 => ?_)
    · refine v_aload_n C 3 dSt_changeSequence_73 rfl rfl ?_
      refine v_aload_n C 0 dSt_changeSequence_74 rfl rfl ?_
      refine v_iload_n C 1 dSt_changeSequence_75 rfl rfl ?_
      refine v_iconst C 2 dSt_changeSequence_76 (by decide) ?_
      have key : ∀ p : Int32, p = (if kind = 2 then I a 1 - 1 else 0) → V x g 0 0 I J 90 [some (.ref a), some (.int kind), some (.ref o), some (.ref ao)] [.int p, .ref a, .ref ao] := by
        intro p ep
        refine v_cVi C (c_St_removeAt (kl x) (kD x) g I J p hs) mwSt_removeAt cfSt (by assumption) w310 ws11 w308 rfl rfl (ble rfl) (ble rfl) (ble rfl) (ble rfl) (ble rfl) dSt_changeSequence_90 ?_
        obtain ⟨q, hq, e3, e4, e5, e6⟩ := ops_15 hO (jushr (J a 0) (4 * p)).toInt32
        have e5' : g.2.1 ao (remN (J a 0) p).toNatClampNeg = some (ob + q) := e5
        have e4' : vp_in (remN (J a 0) p) 16 := e4
        have e3' : (remN (J a 0) p).toNatClampNeg = q := e3
        refine v_pald C (by assumption) (by assumption) (by assumption) dSt_changeSequence_93 ?_
        refine v_geti C cfOp (k := 2) (by assumption) rfl w355 dSt_changeSequence_94 ?_
        rw [s2_a (sh_ne e6 hs (by decide))]
        exact v_iret C M dSt_changeSequence_97 (ble rfl) (ble rfl) (pf_i (by simp [chSeq, h1, c67, ← ep, e3']) (by simp [chSeq, h1, c67]) (by simp [chSeq, h1, c67, ← ep]))
      refine v_icmp_ne C 89 dSt_changeSequence_77 (by decide) (fun c77 => ?_) (fun c77 => ?_)
      · refine v_iconst C 0 dSt_changeSequence_89 (by decide) ?_
        exact key 0 (by rw [if_neg c77])
      · have c77 : kind = 2 := by simpa using c77
        refine v_aload_n C 0 dSt_changeSequence_80 rfl rfl ?_
        refine v_geti C cfSt (k := 1) (by assumption) rfl w67 dSt_changeSequence_81 ?_
        refine v_iconst C 1 dSt_changeSequence_84 (by decide) ?_
        refine v_isub C dSt_changeSequence_85 ?_
        refine v_goto C 90 dSt_changeSequence_86 (by decide) ?_
        exact key _ (by rw [if_pos c77])
    · refine v_ldc C w295 dSt_changeSequence_70 ?_
      exact v_iret C M dSt_changeSequence_72 (ble rfl) (ble rfl) (pf_i (by simp [chSeq, h1, c67, NOTH]) (by simp [chSeq, h1, c67, s2_id]) (by simp [chSeq, h1, c67, s2_id]))
  · refine v_lookup C 98 dSt_changeSequence_4 (by decide) (lsw2 h0 h1) (by decide) ?_
    refine v_aload_n C 0 dSt_changeSequence_98 rfl rfl ?_
    refine v_geti C cfSt (k := 1) (by assumption) rfl w67 dSt_changeSequence_99 ?_
    exact v_iret C M dSt_changeSequence_102 (ble rfl) (ble rfl) (pf_i (by simp [chSeq, h0, h1]) (by simp [chSeq, h0, h1, s2_id]) (by simp [chSeq, h0, h1, s2_id]))
/-- an operation's numbers, over the memory -/
abbrev chgM (I : MI) (kind : Int32) (o ob : Nat) (w : Int64) (sz : Int32) : Int64 × Int32 × Int32 := chg kind (I o 1) (I o 2) (I o 3) (I o 4) (fun i => I (ob + i) 2) (fun i => I (ob + i) 3) w sz
theorem c_St_change (l : Launch) (D : va_G) (g : GM) (I : MI) (J : MJ) {a n o m ao ob sz : Nat} (kind : Int32) (hs : g.1 a = (2, n)) (ho : g.1 o = (0, m)) (hO : OpsAt g ao ob) (hz : I a 1 = nI sz) (hz2 : sz ≤ 16) : Ct l ySt_change bSt_change 4 none (rmN 2 50) D [.ref a, .int kind, .ref o, .ref ao] g I J (PF none g (s2 (s2 I a 1 (chgM I kind o ob (J a 0) (I a 1)).2.1) a 2 (chgM I kind o ob (J a 0) (I a 1)).2.2) (s2 J a 0 (chgM I kind o ob (J a 0) (I a 1)).1)) := by
  refine Ct.of (by decide) (ble rfl) [some (.ref a), some (.int kind), some (.ref o), some (.ref ao)] rfl ?_
  intro x C M
  have hA := hO.1
  refine v_iload_n C 1 dSt_change_0 rfl rfl ?_
  by_cases h0 : kind = 0
  · refine v_lookup C 36 dSt_change_1 (by decide) (by rw [h0]) (by decide) ?_
    refine v_aload_n C 0 dSt_change_36 rfl rfl ?_
    refine v_aload_n C 0 dSt_change_37 rfl rfl ?_
    refine v_aload_n C 2 dSt_change_38 rfl rfl ?_
    refine v_cVi C (c_St_changeRegister (kl x) (kD x) g I J hs ho) mwSt_changeRegister cfSt (by assumption) w283 ws5 w281 rfl rfl (ble rfl) (ble rfl) (ble rfl) (ble rfl) (ble rfl) dSt_change_39 ?_
    refine v_puti C cfSt (k := 2) (by assumption) rfl w69 rfl rfl rfl dSt_change_42 ?_
    refine v_goto C 84 dSt_change_45 (by decide) ?_
    exact v_vret C M dSt_change_84 (ble rfl) (ble rfl) (pf_v (by simp [chg, h0, s2_id]) (by simp [chg, h0]))
  by_cases h3 : kind = 3
  · refine v_lookup C 48 dSt_change_1 (by decide) (by rw [h3]) (by decide) ?_
    refine v_aload_n C 0 dSt_change_48 rfl rfl ?_
    refine v_aload_n C 0 dSt_change_49 rfl rfl ?_
    refine v_aload_n C 2 dSt_change_50 rfl rfl ?_
    refine v_cVi C (c_St_changeSet (kl x) (kD x) g I J hs ho) mwSt_changeSet cfSt (by assumption) w287 ws6 w285 rfl rfl (ble rfl) (ble rfl) (ble rfl) (ble rfl) (ble rfl) dSt_change_51 ?_
    refine v_puti C cfSt (k := 2) (by assumption) rfl w69 rfl rfl rfl dSt_change_54 ?_
    refine v_goto C 84 dSt_change_57 (by decide) ?_
    exact v_vret C M dSt_change_84 (ble rfl) (ble rfl) (pf_v (by simp [chg, h3, s2_id]) (by simp [chg, h3]))
  by_cases h5 : kind = 5
  · refine v_lookup C 60 dSt_change_1 (by decide) (by rw [h5]) (by decide) ?_
    refine v_aload_n C 0 dSt_change_60 rfl rfl ?_
    refine v_aload_n C 0 dSt_change_61 rfl rfl ?_
    refine v_aload_n C 2 dSt_change_62 rfl rfl ?_
    refine v_aload_n C 3 dSt_change_63 rfl rfl ?_
    refine v_cVi C (c_St_changeMap (kl x) (kD x) g I J hs ho hO) mwSt_changeMap cfSt (by assumption) w292 ws7 w290 rfl rfl (ble rfl) (ble rfl) (ble rfl) (ble rfl) (ble rfl) dSt_change_64 ?_
    refine v_puti C cfSt (k := 2) (by assumption) rfl w69 rfl rfl rfl dSt_change_67 ?_
    refine v_goto C 84 dSt_change_70 (by decide) ?_
    exact v_vret C M dSt_change_84 (ble rfl) (ble rfl) (pf_v (by simp [chg, h5, s2_id]) (by simp [chg, h5]))
  · refine v_lookup C 73 dSt_change_1 (by decide) (lsw3 h0 h3 h5) (by decide) ?_
    refine v_aload_n C 0 dSt_change_73 rfl rfl ?_
    refine v_aload_n C 0 dSt_change_74 rfl rfl ?_
    refine v_iload_n C 1 dSt_change_75 rfl rfl ?_
    refine v_aload_n C 2 dSt_change_76 rfl rfl ?_
    refine v_aload_n C 3 dSt_change_77 rfl rfl ?_
    refine v_cVi C (c_St_changeSequence (kl x) (kD x) g I J kind hs ho hO hz hz2) mwSt_changeSequence cfSt (by assumption) w298 ws8 w296 rfl rfl (ble rfl) (ble rfl) (ble rfl) (ble rfl) (ble rfl) dSt_change_78 ?_
    refine v_puti C cfSt (k := 2) (by assumption) rfl w69 rfl rfl rfl dSt_change_81 ?_
    exact v_vret C M dSt_change_84 (ble rfl) (ble rfl) (pf_v (by simp [chg, h0, h3, h5]) (by simp [chg, h0, h3, h5]))
