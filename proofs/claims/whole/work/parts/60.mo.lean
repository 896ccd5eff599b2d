/-! THE REFERENCE: m the object, m+1 kinds, m+2 counts, m+3 list, m+4 process, m+5 objectOf, m+6 operation, m+7 first, m+8 second, m+9 backWith, m+10 calledAt, m+11 backAt, m+12 open, m+13 masks, m+14 states, m+15 alive, m+16 rows, m+17 known, m+18 found, m+19 judged, m+20 ways, m+21 lasts, m+22 brokenAt, m+23 knownBroken, m+24 row, m+25 results, m+26 at -/
section VM
variable {x : KX} {cc : ByteArray} {own : String} {nL : Nat} {rm : Room} {g : GM} {cells slots : Nat} {I : MI} {J : MJ} {pc : Nat} {lv : List (Option Value)} {st : List Value}
theorem v_getiN (C : Cx x cc own nL rm) {ci N n a k idx : Nat} {Cn : String} {T : u_T} {ty : Nat → FieldType} {v : Int32} (F : CF ci Cn T N ty) (hs : g.1 a = (ci, n)) (hk : (fkL ci)[k]? = some 0) (hw : Cond.fieldLink own idx (T k).1 (T k).2.1 (T k).2.2.1 ∈ TB) (d : decode cc pc = .ok (.getfield idx, 3)) (hv : I a k = v) (kk : V x g cells slots I J (pc + 3) lv (.int v :: st)) : V x g cells slots I J pc lv (.ref a :: st) := v_geti C F hs hk hw d (by rw [hv]; exact kk)
theorem v_getlN (C : Cx x cc own nL rm) {ci N n a k idx : Nat} {Cn : String} {T : u_T} {ty : Nat → FieldType} {v : Int64} (F : CF ci Cn T N ty) (hs : g.1 a = (ci, n)) (hk : (fkL ci)[k]? = some 1) (hw : Cond.fieldLink own idx (T k).1 (T k).2.1 (T k).2.2.1 ∈ TB) (d : decode cc pc = .ok (.getfield idx, 3)) (hv : J a k = v) (kk : V x g cells slots I J (pc + 3) lv (.long v :: st)) : V x g cells slots I J pc lv (.ref a :: st) := v_getl C F hs hk hw d (by rw [hv]; exact kk)
theorem v_ialdN (C : Cx x cc own nL rm) {a n q : Nat} {i v : Int32} (hs : g.1 a = (10, n)) (hi : i = nI q) (hq : q < n) (hn : n < 2 ^ 31) (hv : I a q = v) (d : decode cc pc = .ok (.iaload, 1)) (kk : V x g cells slots I J (pc + 1) lv (.int v :: st)) : V x g cells slots I J pc lv (.int i :: .ref a :: st) := by
  subst hi
  refine v_iald C hs (vp_in_nI hq hn) d ?_
  rw [nI_clamp (by omega), hv]
  exact kk
theorem v_zaldN (C : Cx x cc own nL rm) {a n q : Nat} {i v : Int32} (hs : g.1 a = (12, n)) (hi : i = nI q) (hq : q < n) (hn : n < 2 ^ 31) (hv : I a q = v) (d : decode cc pc = .ok (.baload, 1)) (kk : V x g cells slots I J (pc + 1) lv (.int v :: st)) : V x g cells slots I J pc lv (.int i :: .ref a :: st) := by
  subst hi
  refine v_zald C hs (vp_in_nI hq hn) d ?_
  rw [nI_clamp (by omega), hv]
  exact kk
theorem v_laldN (C : Cx x cc own nL rm) {a n q : Nat} {i : Int32} {v : Int64} (hs : g.1 a = (11, n)) (hi : i = nI q) (hq : q < n) (hn : n < 2 ^ 31) (hv : J a q = v) (d : decode cc pc = .ok (.laload, 1)) (kk : V x g cells slots I J (pc + 1) lv (.long v :: st)) : V x g cells slots I J pc lv (.int i :: .ref a :: st) := by
  subst hi
  refine v_lald C hs (vp_in_nI hq hn) d ?_
  rw [nI_clamp (by omega), hv]
  exact kk
theorem v_iastN (C : Cx x cc own nL rm) {a n q : Nat} {i v : Int32} (hs : g.1 a = (10, n)) (hi : i = nI q) (hq : q < n) (hn : n < 2 ^ 31) (d : decode cc pc = .ok (.iastore, 1)) (kk : V x g cells slots (s2 I a q v) J (pc + 1) lv st) : V x g cells slots I J pc lv (.int v :: .int i :: .ref a :: st) := by
  subst hi
  refine v_iast C hs (vp_in_nI hq hn) d ?_
  rw [nI_clamp (by omega)]
  exact kk
theorem v_zastN (C : Cx x cc own nL rm) {a n q : Nat} {i v : Int32} (hs : g.1 a = (12, n)) (hi : i = nI q) (hq : q < n) (hn : n < 2 ^ 31) (hv : v = 0 ∨ v = 1) (d : decode cc pc = .ok (.bastore, 1)) (kk : V x g cells slots (s2 I a q v) J (pc + 1) lv st) : V x g cells slots I J pc lv (.int v :: .int i :: .ref a :: st) := by
  subst hi
  refine v_zast C hs (vp_in_nI hq hn) hv d ?_
  rw [nI_clamp (by omega)]
  exact kk
theorem v_lastN (C : Cx x cc own nL rm) {a n q : Nat} {i : Int32} {v : Int64} (hs : g.1 a = (11, n)) (hi : i = nI q) (hq : q < n) (hn : n < 2 ^ 31) (d : decode cc pc = .ok (.lastore, 1)) (kk : V x g cells slots I (s2 J a q v) (pc + 1) lv st) : V x g cells slots I J pc lv (.long v :: .int i :: .ref a :: st) := by
  subst hi
  refine v_last C hs (vp_in_nI hq hn) d ?_
  rw [nI_clamp (by omega)]
  exact kk
theorem v_iaddN (C : Cx x cc own nL rm) {a b c : Int32} (d : decode cc pc = .ok (.iadd, 1)) (h : a + b = c) (k : V x g cells slots I J (pc + 1) lv (.int c :: st)) : V x g cells slots I J pc lv (.int b :: .int a :: st) := v_iadd C d (by rw [h]; exact k)
theorem v_isubN (C : Cx x cc own nL rm) {a b c : Int32} (d : decode cc pc = .ok (.isub, 1)) (h : a - b = c) (k : V x g cells slots I J (pc + 1) lv (.int c :: st)) : V x g cells slots I J pc lv (.int b :: .int a :: st) := v_isub C d (by rw [h]; exact k)
theorem v_imulN (C : Cx x cc own nL rm) {a b c : Int32} (d : decode cc pc = .ok (.imul, 1)) (h : a * b = c) (k : V x g cells slots I J (pc + 1) lv (.int c :: st)) : V x g cells slots I J pc lv (.int b :: .int a :: st) := v_imul C d (by rw [h]; exact k)
theorem v_l2iN (C : Cx x cc own nL rm) {a : Int64} {c : Int32} (d : decode cc pc = .ok (.l2i, 1)) (h : a.toInt32 = c) (k : V x g cells slots I J (pc + 1) lv (.int c :: st)) : V x g cells slots I J pc lv (.long a :: st) := v_l2i C d (by rw [h]; exact k)
theorem v_ishrN (C : Cx x cc own nL rm) {a b c : Int32} (d : decode cc pc = .ok (.ishr, 1)) (h : a >>> (b &&& 31) = c) (k : V x g cells slots I J (pc + 1) lv (.int c :: st)) : V x g cells slots I J pc lv (.int b :: .int a :: st) := v_ishr C d (by rw [h]; exact k)
end VM
theorem n16I : (16 : Int32) = nI 16 := rfl
theorem n2001I : (2001 : Int32) = nI 2001 := rfl
def MoAt (g : GM) (m : Nat) : Prop := g.1 m = (6, 0) ∧ g.1 (m + 1) = (10, 6) ∧ g.1 (m + 2) = (10, 6) ∧ g.1 (m + 3) = (10, 96) ∧ g.1 (m + 4) = (10, 48) ∧ g.1 (m + 5) = (10, 48) ∧ g.1 (m + 6) = (10, 48) ∧ g.1 (m + 7) = (10, 48) ∧ g.1 (m + 8) = (10, 48) ∧ g.1 (m + 9) = (10, 48) ∧ g.1 (m + 10) = (10, 48) ∧ g.1 (m + 11) = (10, 48) ∧ g.1 (m + 12) = (10, 8) ∧ g.1 (m + 13) = (10, 14007) ∧ g.1 (m + 14) = (11, 14007) ∧ g.1 (m + 15) = (12, 14007) ∧ g.1 (m + 16) = (11, 2001) ∧ g.1 (m + 17) = (12, 6) ∧ g.1 (m + 18) = (10, 6) ∧ g.1 (m + 19) = (10, 6) ∧ g.1 (m + 20) = (11, 6) ∧ g.1 (m + 21) = (10, 6) ∧ g.1 (m + 22) = (10, 6) ∧ g.1 (m + 23) = (12, 6) ∧ g.1 (m + 24) = (10, 48) ∧ g.1 (m + 25) = (10, 48) ∧ g.1 (m + 26) = (10, 6) ∧ g.2.1 m 2 = some (m + 1) ∧ g.2.1 m 3 = some (m + 2) ∧ g.2.1 m 4 = some (m + 3) ∧ g.2.1 m 6 = some (m + 4) ∧ g.2.1 m 7 = some (m + 5) ∧ g.2.1 m 8 = some (m + 6) ∧ g.2.1 m 9 = some (m + 7) ∧ g.2.1 m 10 = some (m + 8) ∧ g.2.1 m 11 = some (m + 9) ∧ g.2.1 m 12 = some (m + 10) ∧ g.2.1 m 13 = some (m + 11) ∧ g.2.1 m 14 = some (m + 12) ∧ g.2.1 m 16 = some (m + 13) ∧ g.2.1 m 17 = some (m + 14) ∧ g.2.1 m 18 = some (m + 15) ∧ g.2.1 m 19 = some (m + 16) ∧ g.2.1 m 20 = some (m + 17) ∧ g.2.1 m 21 = some (m + 18) ∧ g.2.1 m 22 = some (m + 19) ∧ g.2.1 m 23 = some (m + 20) ∧ g.2.1 m 24 = some (m + 21) ∧ g.2.1 m 25 = some (m + 22) ∧ g.2.1 m 26 = some (m + 23) ∧ g.2.1 m 32 = some (m + 24) ∧ g.2.1 m 33 = some (m + 25) ∧ g.2.1 m 34 = some (m + 26)
/-- behind change(): nothing is known -/
def chM (m : Nat) (I I2 : MI) : Prop := (∀ j, j < 6 → I2 (m + 17) j = 0 ∧ I2 (m + 23) j = 0) ∧ I2 m 30 = 0 ∧ (∀ k, k ≠ 30 → I2 m k = I m k) ∧ ∀ b, b ≠ m → b ≠ m + 17 → b ≠ m + 23 → I2 b = I b
theorem c_Mo_thrown (l : Launch) (D : va_G) (g : GM) (I : MI) (J : MJ) {m : Nat} (m0 : g.1 m = (6, 0)) : Ct l yMo_thrown bMo_thrown 1 (some .int) (rmN 0 0) D [.ref m] g I J (PF (some (.int (I m 0))) g I J) := by
  refine Ct.of (by decide) (ble rfl) [some (.ref m)] rfl ?_
  intro x C M
  refine v_aload_n C 0 dMo_thrown_0 rfl rfl ?_
  refine v_geti C cfMo (k := 0) (by assumption) rfl w674 dMo_thrown_1 ?_
  exact v_iret C M dMo_thrown_4 (ble rfl) (ble rfl) ⟨rfl, rfl, rfl, rfl⟩
theorem c_Mo_change (l : Launch) (D : va_G) (g : GM) (I : MI) (J : MJ) {m : Nat} (hM : MoAt g m) : Ct l yMo_change bMo_change 2 none (rmN 0 0) D [.ref m] g I J (fun v g2 I2 J2 => v = none ∧ g2 = g ∧ J2 = J ∧ chM m I I2) := by
  refine Ct.of (by decide) (ble rfl) [some (.ref m), none] rfl ?_
  intro x C M
  obtain ⟨m0, m1, m2, m3, m4, m5, m6, m7, m8, m9, m10, m11, m12, m13, m14, m15, m16, m17, m18, m19, m20, m21, m22, m23, m24, m25, m26, f2, f3, f4, f6, f7, f8, f9, f10, f11, f12, f13, f14, f16, f17, f18, f19, f20, f21, f22, f23, f24, f25, f26, f32, f33, f34⟩ := id hM
  refine v_iconst C 0 dMo_change_0 (by decide) ?_
  refine v_istore_n C 1 dMo_change_1 rfl (ble rfl) rfl ?_
  have loop : ∀ (q i : Nat) (Ic : MI), i + q = 6 → (∀ j, j < i → Ic (m + 17) j = 0 ∧ Ic (m + 23) j = 0) → (∀ b, b ≠ m + 17 → b ≠ m + 23 → Ic b = I b) → V x g 0 0 Ic J 2 [some (.ref m), some (.int (nI i))] [] := by
    intro q
    induction q with
    | zero =>
      intro i Ic h1 h2 h3
      refine v_iload_n C 1 dMo_change_2 rfl rfl ?_
      refine v_bipush C 6 dMo_change_3 (by decide) ?_
      refine v_icmp_ge C 28 dMo_change_5 (by decide) (fun _ => ?_) (fun h => absurd (nI_le (a := 6) (by omega) (by omega)) h)
      refine v_aload_n C 0 dMo_change_28 rfl rfl ?_
      refine v_iconst C 0 dMo_change_29 (by decide) ?_
      refine v_puti C cfMo (k := 30) (by assumption) rfl w704 rfl (by first | rfl | assumption) (by first | rfl | assumption) dMo_change_30 ?_
      exact v_vret C M dMo_change_33 (ble rfl) (ble rfl) ⟨rfl, rfl, rfl, fun j hj => by rw [s2_a (by omega), s2_a (by omega)]; exact h2 j (by omega), s2_self _ _ _ _, fun k hk => by rw [s2_k hk, h3 m (by omega) (by omega)], fun b b1 b2 b3 => by rw [s2_off b1]; exact h3 b b2 b3⟩
    | succ q ih =>
      intro i Ic h1 h2 h3
      refine v_iload_n C 1 dMo_change_2 rfl rfl ?_
      refine v_bipush C 6 dMo_change_3 (by decide) ?_
      refine v_icmp_ge C 28 dMo_change_5 (by decide) (fun h => absurd h (nI_ge (b := 6) (by omega) (by decide))) (fun _ => ?_)
      refine v_aload_n C 0 dMo_change_8 rfl rfl ?_
      refine v_getr C cfMo (k := 20) (by assumption) rfl (by assumption) w694 dMo_change_9 ?_
      refine v_iload_n C 1 dMo_change_12 rfl rfl ?_
      refine v_iconst C 0 dMo_change_13 (by decide) ?_
      refine v_zastN C (q := (i)) (by assumption) (by first | rfl | (simp only [n16I, n2001I, nI_add, pk_mul, nI_1])) (by omega) (by decide) (by first | exact Or.inl rfl | exact Or.inr rfl | assumption) dMo_change_14 ?_
      refine v_aload_n C 0 dMo_change_15 rfl rfl ?_
      refine v_getr C cfMo (k := 26) (by assumption) rfl (by assumption) w700 dMo_change_16 ?_
      refine v_iload_n C 1 dMo_change_19 rfl rfl ?_
      refine v_iconst C 0 dMo_change_20 (by decide) ?_
      refine v_zastN C (q := (i)) (by assumption) (by first | rfl | (simp only [n16I, n2001I, nI_add, pk_mul, nI_1])) (by omega) (by decide) (by first | exact Or.inl rfl | exact Or.inr rfl | assumption) dMo_change_21 ?_
      refine v_iinc C (nI (i + 1)) dMo_change_22 rfl (nI_1 i) (ble rfl) rfl ?_
      refine v_goto C 2 dMo_change_25 (by decide) ?_
      refine ih (i + 1) _ (by omega) (fun j hj => ?_) (fun b b1 b2 => by rw [s2_off b2, s2_off b1]; exact h3 b b1 b2)
      rw [s2_a (show m + 17 ≠ m + 23 by omega)]
      by_cases h : j = i
      · subst h
        exact ⟨s2_self _ _ _ _, s2_self _ _ _ _⟩
      · rw [s2_k h, s2_k h, s2_a (show m + 23 ≠ m + 17 by omega)]
        exact h2 j (by omega)
  exact loop 6 0 I (by omega) (fun j hj => absurd hj (Nat.not_lt_zero j)) (fun _ _ _ => rfl)
theorem c_Mo_forget (l : Launch) (D : va_G) (g : GM) (I : MI) (J : MJ) {m : Nat} (hM : MoAt g m) : Ct l yMo_forget bMo_forget 2 none (rmN 1 21) D [.ref m] g I J (fun v g2 I2 J2 => v = none ∧ g2 = g ∧ J2 = J ∧ ∃ I1 : MI, (∀ j, j < 8 → I1 (m + 12) j = -1) ∧ (∀ b, b ≠ m + 12 → I1 b = I b) ∧ chM m I1 I2) := by
  refine Ct.of (by decide) (ble rfl) [some (.ref m), none] rfl ?_
  intro x C M
  obtain ⟨m0, m1, m2, m3, m4, m5, m6, m7, m8, m9, m10, m11, m12, m13, m14, m15, m16, m17, m18, m19, m20, m21, m22, m23, m24, m25, m26, f2, f3, f4, f6, f7, f8, f9, f10, f11, f12, f13, f14, f16, f17, f18, f19, f20, f21, f22, f23, f24, f25, f26, f32, f33, f34⟩ := id hM
  refine v_iconst C 0 dMo_forget_0 (by decide) ?_
  refine v_istore_n C 1 dMo_forget_1 rfl (ble rfl) rfl ?_
  have loop : ∀ (q i : Nat) (Ic : MI), i + q = 8 → (∀ j, j < i → Ic (m + 12) j = -1) → (∀ b, b ≠ m + 12 → Ic b = I b) → V x g 0 0 Ic J 2 [some (.ref m), some (.int (nI i))] [] := by
    intro q
    induction q with
    | zero =>
      intro i Ic h1 h2 h3
      refine v_iload_n C 1 dMo_forget_2 rfl rfl ?_
      refine v_bipush C 8 dMo_forget_3 (by decide) ?_
      refine v_icmp_ge C 21 dMo_forget_5 (by decide) (fun _ => ?_) (fun h => absurd (nI_le (a := 8) (by omega) (by omega)) h)
      refine v_aload_n C 0 dMo_forget_21 rfl rfl ?_
      refine v_callV C (c_Mo_change (kl x) (kD x) g Ic J hM) mwMo_change cfMo (by assumption) w672 ws22 w670 rfl rfl (ble rfl) (ble rfl) (ble rfl) (ble rfl) (ble rfl) dMo_forget_22 ?_
      rintro v g2 I2 J2 ⟨rfl, rfl, rfl, hc⟩
      exact v_vret C M dMo_forget_25 (ble rfl) (ble rfl) ⟨rfl, rfl, rfl, Ic, fun j hj => h2 j (by omega), h3, hc⟩
    | succ q ih =>
      intro i Ic h1 h2 h3
      refine v_iload_n C 1 dMo_forget_2 rfl rfl ?_
      refine v_bipush C 8 dMo_forget_3 (by decide) ?_
      refine v_icmp_ge C 21 dMo_forget_5 (by decide) (fun h => absurd h (nI_ge (b := 8) (by omega) (by decide))) (fun _ => ?_)
      refine v_aload_n C 0 dMo_forget_8 rfl rfl ?_
      refine v_getr C cfMo (k := 14) (by assumption) rfl (by assumption) w688 dMo_forget_9 ?_
      refine v_iload_n C 1 dMo_forget_12 rfl rfl ?_
      refine v_iconst C (-1) dMo_forget_13 (by decide) ?_
      refine v_iastN C (q := (i)) (by assumption) (by first | rfl | (simp only [n16I, n2001I, nI_add, pk_mul, nI_1])) (by omega) (by decide) dMo_forget_14 ?_
      refine v_iinc C (nI (i + 1)) dMo_forget_15 rfl (nI_1 i) (ble rfl) rfl ?_
      refine v_goto C 2 dMo_forget_18 (by decide) ?_
      refine ih (i + 1) _ (by omega) (fun j hj => ?_) (fun b b1 => by rw [s2_off b1]; exact h3 b b1)
      by_cases h : j = i
      · subst h
        exact s2_self _ _ _ _
      · rw [s2_k h]
        exact h2 j (by omega)
  exact loop 8 0 I (by omega) (fun j hj => absurd hj (Nat.not_lt_zero j)) (fun _ _ => rfl)
abbrev noOb (no : Nat) (k : Int32) : Prop := k < 0 ∨ nI no ≤ k
theorem c_Mo_noObject (l : Launch) (D : va_G) (g : GM) (I : MI) (J : MJ) {m no : Nat} (k : Int32) (m0 : g.1 m = (6, 0)) (hno : I m 1 = nI no) : Ct l yMo_noObject bMo_noObject 2 (some .boolean) (rmN 0 0) D [.ref m, .int k] g I J (PF (some (.int (if noOb no k then 1 else 0))) g I J) := by
  refine Ct.of (by decide) (ble rfl) [some (.ref m), some (.int k)] rfl ?_
  intro x C M
  refine v_iload_n C 1 dMo_noObject_0 rfl rfl ?_
  refine v_if_lt C 12 dMo_noObject_1 (by decide) (fun c1 => ?_) (fun c1 => ?_)
  · refine v_iconst C 1 dMo_noObject_12 (by decide) ?_
    refine v_goto C 17 dMo_noObject_13 (by decide) ?_
    exact v_zret C M (by first | exact Or.inl rfl | exact Or.inr rfl | assumption) dMo_noObject_17 (ble rfl) (ble rfl) (pf_i (by rw [if_pos (Or.inl c1)]) rfl rfl)
  · refine v_iload_n C 1 dMo_noObject_4 rfl rfl ?_
    refine v_aload_n C 0 dMo_noObject_5 rfl rfl ?_
    refine v_getiN C cfMo (k := 1) (by assumption) rfl w675 dMo_noObject_6 (hno) ?_
    refine v_icmp_lt C 16 dMo_noObject_9 (by decide) (fun c9 => ?_) (fun c9 => ?_)
    · refine v_iconst C 0 dMo_noObject_16 (by decide) ?_
      have hc : ¬ noOb no k := by
        rintro (h | h)
        · exact c1 h
        · exact absurd c9 (Int32.not_lt.mpr h)
      exact v_zret C M (by first | exact Or.inl rfl | exact Or.inr rfl | assumption) dMo_noObject_17 (ble rfl) (ble rfl) (pf_i (by rw [if_neg hc]) rfl rfl)
    · refine v_iconst C 1 dMo_noObject_12 (by decide) ?_
      refine v_goto C 17 dMo_noObject_13 (by decide) ?_
      exact v_zret C M (by first | exact Or.inl rfl | exact Or.inr rfl | assumption) dMo_noObject_17 (ble rfl) (ble rfl) (pf_i (by rw [if_pos (Or.inr (Int32.not_lt.mp c9))]) rfl rfl)
/-- the list: all its cells hold operations' numbers -/
def LsOK (I : MI) (m : Nat) (L : Nat → Nat) : Prop := ∀ q, q < 96 → I (m + 3) q = nI (L q) ∧ L q < 48
/-- field f of the operation at place i of object k: 4 process, 6 operation, 7 first, 8 second, 9 backWith, 10 calledAt, 11 backAt -/
abbrev rE (I : MI) (m : Nat) (L : Nat → Nat) (k : Nat) : Nat → Nat → Int32 := fun i f => I (m + f) (L (16 * k + i))
abbrev bk (ba until_ : Int32) : Prop := 0 < ba ∧ ba ≤ until_
theorem c_Mo_isBack (l : Launch) (D : va_G) (g : GM) (I : MI) (J : MJ) {m n : Nat} (until_ : Int32) (hM : MoAt g m) (hn : n < 48) : Ct l yMo_isBack bMo_isBack 3 (some .boolean) (rmN 0 0) D [.ref m, .int (nI n), .int until_] g I J (PF (some (.int (if bk (I (m + 11) n) until_ then 1 else 0))) g I J) := by
  refine Ct.of (by decide) (ble rfl) [some (.ref m), some (.int (nI n)), some (.int until_)] rfl ?_
  intro x C M
  obtain ⟨m0, m1, m2, m3, m4, m5, m6, m7, m8, m9, m10, m11, m12, m13, m14, m15, m16, m17, m18, m19, m20, m21, m22, m23, m24, m25, m26, f2, f3, f4, f6, f7, f8, f9, f10, f11, f12, f13, f14, f16, f17, f18, f19, f20, f21, f22, f23, f24, f25, f26, f32, f33, f34⟩ := id hM
  refine v_aload_n C 0 dMo_isBack_0 rfl rfl ?_
  refine v_getr C cfMo (k := 13) (by assumption) rfl (by assumption) w687 dMo_isBack_1 ?_
  refine v_iload_n C 1 dMo_isBack_4 rfl rfl ?_
  refine v_ialdN C (q := (n)) (by assumption) (by first | rfl | (simp only [n16I, n2001I, nI_add, pk_mul, nI_1])) (by omega) (by decide) (rfl) dMo_isBack_5 ?_
  refine v_if_le C 23 dMo_isBack_6 (by decide) (fun c6 => ?_) (fun c6 => ?_)
  · refine v_iconst C 0 dMo_isBack_23 (by decide) ?_
    exact v_zret C M (by first | exact Or.inl rfl | exact Or.inr rfl | assumption) dMo_isBack_24 (ble rfl) (ble rfl) (pf_i (by rw [if_neg (fun h => absurd h.1 (Int32.not_lt.mpr c6))]) rfl rfl)
  · refine v_aload_n C 0 dMo_isBack_9 rfl rfl ?_
    refine v_getr C cfMo (k := 13) (by assumption) rfl (by assumption) w687 dMo_isBack_10 ?_
    refine v_iload_n C 1 dMo_isBack_13 rfl rfl ?_
    refine v_ialdN C (q := (n)) (by assumption) (by first | rfl | (simp only [n16I, n2001I, nI_add, pk_mul, nI_1])) (by omega) (by decide) (rfl) dMo_isBack_14 ?_
    refine v_iload_n C 2 dMo_isBack_15 rfl rfl ?_
    refine v_icmp_gt C 23 dMo_isBack_16 (by decide) (fun c16 => ?_) (fun c16 => ?_)
    · refine v_iconst C 0 dMo_isBack_23 (by decide) ?_
      exact v_zret C M (by first | exact Or.inl rfl | exact Or.inr rfl | assumption) dMo_isBack_24 (ble rfl) (ble rfl) (pf_i (by rw [if_neg (fun h => absurd c16 (Int32.not_lt.mpr h.2))]) rfl rfl)
    · refine v_iconst C 1 dMo_isBack_19 (by decide) ?_
      refine v_goto C 24 dMo_isBack_20 (by decide) ?_
      exact v_zret C M (by first | exact Or.inl rfl | exact Or.inr rfl | assumption) dMo_isBack_24 (ble rfl) (ble rfl) (pf_i (by rw [if_pos ⟨Int32.not_le.mp c6, Int32.not_lt.mp c16⟩]) rfl rfl)
/-- isBefore of two operations by their numbers -/
abbrev bfr (I : MI) (m : Nat) (until_ own : Int32) (a b : Nat) : Prop := if own = 0 then bk (I (m + 11) a) until_ ∧ I (m + 11) a < I (m + 10) b else I (m + 4) a = I (m + 4) b ∧ nI a < nI b
theorem c_Mo_isBefore (l : Launch) (D : va_G) (g : GM) (I : MI) (J : MJ) {m a b : Nat} (until_ own : Int32) (hM : MoAt g m) (ha : a < 48) (hb : b < 48) : Ct l yMo_isBefore bMo_isBefore 5 (some .boolean) (rmN 1 22) D [.ref m, .int (nI a), .int (nI b), .int until_, .int own] g I J (PF (some (.int (if bfr I m until_ own a b then 1 else 0))) g I J) := by
  refine Ct.of (by decide) (ble rfl) [some (.ref m), some (.int (nI a)), some (.int (nI b)), some (.int until_), some (.int own)] rfl ?_
  intro x C M
  obtain ⟨m0, m1, m2, m3, m4, m5, m6, m7, m8, m9, m10, m11, m12, m13, m14, m15, m16, m17, m18, m19, m20, m21, m22, m23, m24, m25, m26, f2, f3, f4, f6, f7, f8, f9, f10, f11, f12, f13, f14, f16, f17, f18, f19, f20, f21, f22, f23, f24, f25, f26, f32, f33, f34⟩ := id hM
  refine v_iload C dMo_isBefore_0 rfl ?_
  refine v_if_eq C 33 dMo_isBefore_2 (by decide) (fun c2 => ?_) (fun c2 => ?_)
  · refine v_aload_n C 0 dMo_isBefore_33 rfl rfl ?_
    refine v_iload_n C 1 dMo_isBefore_34 rfl rfl ?_
    refine v_iload_n C 3 dMo_isBefore_35 rfl rfl ?_
    refine v_cVi C (c_Mo_isBack (kl x) (kD x) g I J until_ hM ha) mwMo_isBack cfMo (by assumption) w838 ws29 w836 rfl rfl (ble rfl) (ble rfl) (ble rfl) (ble rfl) (ble rfl) dMo_isBefore_36 ?_
    by_cases hk : bk (I (m + 11) a) until_
    · rw [if_pos hk]
      refine v_if_eq C 61 dMo_isBefore_39 (by decide) (fun h => absurd h (by decide)) (fun _ => ?_)
      refine v_aload_n C 0 dMo_isBefore_42 rfl rfl ?_
      refine v_getr C cfMo (k := 13) (by assumption) rfl (by assumption) w687 dMo_isBefore_43 ?_
      refine v_iload_n C 1 dMo_isBefore_46 rfl rfl ?_
      refine v_ialdN C (q := (a)) (by assumption) (by first | rfl | (simp only [n16I, n2001I, nI_add, pk_mul, nI_1])) (by omega) (by decide) (rfl) dMo_isBefore_47 ?_
      refine v_aload_n C 0 dMo_isBefore_48 rfl rfl ?_
      refine v_getr C cfMo (k := 12) (by assumption) rfl (by assumption) w686 dMo_isBefore_49 ?_
      refine v_iload_n C 2 dMo_isBefore_52 rfl rfl ?_
      refine v_ialdN C (q := (b)) (by assumption) (by first | rfl | (simp only [n16I, n2001I, nI_add, pk_mul, nI_1])) (by omega) (by decide) (rfl) dMo_isBefore_53 ?_
      refine v_icmp_ge C 61 dMo_isBefore_54 (by decide) (fun c54 => ?_) (fun c54 => ?_)
      · refine v_iconst C 0 dMo_isBefore_61 (by decide) ?_
        exact v_zret C M (by first | exact Or.inl rfl | exact Or.inr rfl | assumption) dMo_isBefore_62 (ble rfl) (ble rfl) (pf_i (by unfold bfr; rw [if_neg]; rw [if_pos c2]; exact fun h => absurd h.2 (Int32.not_lt.mpr c54)) rfl rfl)
      · refine v_iconst C 1 dMo_isBefore_57 (by decide) ?_
        refine v_goto C 62 dMo_isBefore_58 (by decide) ?_
        exact v_zret C M (by first | exact Or.inl rfl | exact Or.inr rfl | assumption) dMo_isBefore_62 (ble rfl) (ble rfl) (pf_i (by unfold bfr; rw [if_pos]; rw [if_pos c2]; exact ⟨hk, Int32.not_le.mp c54⟩) rfl rfl)
    · rw [if_neg hk]
      refine v_if_eq C 61 dMo_isBefore_39 (by decide) (fun _ => ?_) (fun h => absurd rfl h)
      refine v_iconst C 0 dMo_isBefore_61 (by decide) ?_
      exact v_zret C M (by first | exact Or.inl rfl | exact Or.inr rfl | assumption) dMo_isBefore_62 (ble rfl) (ble rfl) (pf_i (by unfold bfr; rw [if_neg]; rw [if_pos c2]; exact fun h => hk h.1) rfl rfl)
  · refine v_aload_n C 0 dMo_isBefore_5 rfl rfl ?_
    refine v_getr C cfMo (k := 6) (by assumption) rfl (by assumption) w680 dMo_isBefore_6 ?_
    refine v_iload_n C 1 dMo_isBefore_9 rfl rfl ?_
    refine v_ialdN C (q := (a)) (by assumption) (by first | rfl | (simp only [n16I, n2001I, nI_add, pk_mul, nI_1])) (by omega) (by decide) (rfl) dMo_isBefore_10 ?_
    refine v_aload_n C 0 dMo_isBefore_11 rfl rfl ?_
    refine v_getr C cfMo (k := 6) (by assumption) rfl (by assumption) w680 dMo_isBefore_12 ?_
    refine v_iload_n C 2 dMo_isBefore_15 rfl rfl ?_
    refine v_ialdN C (q := (b)) (by assumption) (by first | rfl | (simp only [n16I, n2001I, nI_add, pk_mul, nI_1])) (by omega) (by decide) (rfl) dMo_isBefore_16 ?_
    refine v_icmp_ne C 29 dMo_isBefore_17 (by decide) (fun c17 => ?_) (fun c17 => ?_)
    · refine v_iconst C 0 dMo_isBefore_29 (by decide) ?_
      refine v_goto C 62 dMo_isBefore_30 (by decide) ?_
      exact v_zret C M (by first | exact Or.inl rfl | exact Or.inr rfl | assumption) dMo_isBefore_62 (ble rfl) (ble rfl) (pf_i (by unfold bfr; rw [if_neg]; rw [if_neg c2]; exact fun h => c17 h.1) rfl rfl)
    · refine v_iload_n C 1 dMo_isBefore_20 rfl rfl ?_
      refine v_iload_n C 2 dMo_isBefore_21 rfl rfl ?_
      refine v_icmp_ge C 29 dMo_isBefore_22 (by decide) (fun c22 => ?_) (fun c22 => ?_)
      · refine v_iconst C 0 dMo_isBefore_29 (by decide) ?_
        refine v_goto C 62 dMo_isBefore_30 (by decide) ?_
        exact v_zret C M (by first | exact Or.inl rfl | exact Or.inr rfl | assumption) dMo_isBefore_62 (ble rfl) (ble rfl) (pf_i (by unfold bfr; rw [if_neg]; rw [if_neg c2]; exact fun h => absurd h.2 (Int32.not_lt.mpr c22)) rfl rfl)
      · refine v_iconst C 1 dMo_isBefore_25 (by decide) ?_
        refine v_goto C 62 dMo_isBefore_26 (by decide) ?_
        exact v_zret C M (by first | exact Or.inl rfl | exact Or.inr rfl | assumption) dMo_isBefore_62 (ble rfl) (ble rfl) (pf_i (by unfold bfr; rw [if_pos]; rw [if_neg c2]; exact ⟨c17, Int32.not_le.mp c22⟩) rfl rfl)
theorem c_Mo_likeFirst (l : Launch) (D : va_G) (g : GM) (I : MI) (J : MJ) {m k i : Nat} {L : Nat → Nat} (hM : MoAt g m) (hL : LsOK I m L) (hk : k < 6) (hi : i < 16) : Ct l yMo_likeFirst bMo_likeFirst 4 (some .int) (rmN 0 0) D [.ref m, .int (nI k), .int (nI i)] g I J (PF (some (.int (nI (nmF (fun j => rE I m L k j 7) (rE I m L k i 7) i 0)))) g I J) := by
  refine Ct.of (by decide) (ble rfl) [some (.ref m), some (.int (nI k)), some (.int (nI i)), none] rfl ?_
  intro x C M
  obtain ⟨m0, m1, m2, m3, m4, m5, m6, m7, m8, m9, m10, m11, m12, m13, m14, m15, m16, m17, m18, m19, m20, m21, m22, m23, m24, m25, m26, f2, f3, f4, f6, f7, f8, f9, f10, f11, f12, f13, f14, f16, f17, f18, f19, f20, f21, f22, f23, f24, f25, f26, f32, f33, f34⟩ := id hM
  have hl : ∀ j, j < 16 → I (m + 3) (16 * k + j) = nI (L (16 * k + j)) ∧ L (16 * k + j) < 48 := fun j hj => hL _ (by omega)
  have hli := (hl i hi).2
  refine v_iconst C 0 dMo_likeFirst_0 (by decide) ?_
  refine v_istore_n C 3 dMo_likeFirst_1 rfl (ble rfl) rfl ?_
  have loop : ∀ (q j : Nat), j + q = i → nmF (fun j => rE I m L k j 7) (rE I m L k i 7) q j = nmF (fun j => rE I m L k j 7) (rE I m L k i 7) i 0 → V x g 0 0 I J 2 [some (.ref m), some (.int (nI k)), some (.int (nI i)), some (.int (nI j))] [] := by
    intro q
    induction q with
    | zero =>
      intro j h1 h2
      have hj : j = i := by omega
      subst hj
      refine v_aload_n C 0 dMo_likeFirst_2 rfl rfl ?_
      refine v_getr C cfMo (k := 9) (by assumption) rfl (by assumption) w683 dMo_likeFirst_3 ?_
      refine v_aload_n C 0 dMo_likeFirst_6 rfl rfl ?_
      refine v_getr C cfMo (k := 4) (by assumption) rfl (by assumption) w678 dMo_likeFirst_7 ?_
      refine v_bipush C 16 dMo_likeFirst_10 (by decide) ?_
      refine v_iload_n C 1 dMo_likeFirst_12 rfl rfl ?_
      refine v_imul C dMo_likeFirst_13 ?_
      refine v_iload_n C 3 dMo_likeFirst_14 rfl rfl ?_
      refine v_iadd C dMo_likeFirst_15 ?_
      refine v_ialdN C (q := (16 * k + j)) (by assumption) (by first | rfl | (simp only [n16I, n2001I, nI_add, pk_mul, nI_1])) (by omega) (by decide) ((hl j hi).1) dMo_likeFirst_16 ?_
      refine v_ialdN C (q := (L (16 * k + j))) (by assumption) (by first | rfl | (simp only [n16I, n2001I, nI_add, pk_mul, nI_1])) (by omega) (by decide) (rfl) dMo_likeFirst_17 ?_
      refine v_aload_n C 0 dMo_likeFirst_18 rfl rfl ?_
      refine v_getr C cfMo (k := 9) (by assumption) rfl (by assumption) w683 dMo_likeFirst_19 ?_
      refine v_aload_n C 0 dMo_likeFirst_22 rfl rfl ?_
      refine v_getr C cfMo (k := 4) (by assumption) rfl (by assumption) w678 dMo_likeFirst_23 ?_
      refine v_bipush C 16 dMo_likeFirst_26 (by decide) ?_
      refine v_iload_n C 1 dMo_likeFirst_28 rfl rfl ?_
      refine v_imul C dMo_likeFirst_29 ?_
      refine v_iload_n C 2 dMo_likeFirst_30 rfl rfl ?_
      refine v_iadd C dMo_likeFirst_31 ?_
      refine v_ialdN C (q := (16 * k + j)) (by assumption) (by first | rfl | (simp only [n16I, n2001I, nI_add, pk_mul, nI_1])) (by omega) (by decide) ((hl j hi).1) dMo_likeFirst_32 ?_
      refine v_ialdN C (q := (L (16 * k + j))) (by assumption) (by first | rfl | (simp only [n16I, n2001I, nI_add, pk_mul, nI_1])) (by omega) (by decide) (rfl) dMo_likeFirst_33 ?_
      refine v_icmp_eq C 43 dMo_likeFirst_34 (by decide) (fun _ => ?_) (fun h => absurd rfl h)
      refine v_iload_n C 3 dMo_likeFirst_43 rfl rfl ?_
      exact v_iret C M dMo_likeFirst_44 (ble rfl) (ble rfl) (pf_i (by rw [← h2]; rfl) rfl rfl)
    | succ q ih =>
      intro j h1 h2
      have hj : j < 16 := by omega
      have hlj := (hl j hj).2
      refine v_aload_n C 0 dMo_likeFirst_2 rfl rfl ?_
      refine v_getr C cfMo (k := 9) (by assumption) rfl (by assumption) w683 dMo_likeFirst_3 ?_
      refine v_aload_n C 0 dMo_likeFirst_6 rfl rfl ?_
      refine v_getr C cfMo (k := 4) (by assumption) rfl (by assumption) w678 dMo_likeFirst_7 ?_
      refine v_bipush C 16 dMo_likeFirst_10 (by decide) ?_
      refine v_iload_n C 1 dMo_likeFirst_12 rfl rfl ?_
      refine v_imul C dMo_likeFirst_13 ?_
      refine v_iload_n C 3 dMo_likeFirst_14 rfl rfl ?_
      refine v_iadd C dMo_likeFirst_15 ?_
      refine v_ialdN C (q := (16 * k + j)) (by assumption) (by first | rfl | (simp only [n16I, n2001I, nI_add, pk_mul, nI_1])) (by omega) (by decide) ((hl j hj).1) dMo_likeFirst_16 ?_
      refine v_ialdN C (q := (L (16 * k + j))) (by assumption) (by first | rfl | (simp only [n16I, n2001I, nI_add, pk_mul, nI_1])) (by omega) (by decide) (rfl) dMo_likeFirst_17 ?_
      refine v_aload_n C 0 dMo_likeFirst_18 rfl rfl ?_
      refine v_getr C cfMo (k := 9) (by assumption) rfl (by assumption) w683 dMo_likeFirst_19 ?_
      refine v_aload_n C 0 dMo_likeFirst_22 rfl rfl ?_
      refine v_getr C cfMo (k := 4) (by assumption) rfl (by assumption) w678 dMo_likeFirst_23 ?_
      refine v_bipush C 16 dMo_likeFirst_26 (by decide) ?_
      refine v_iload_n C 1 dMo_likeFirst_28 rfl rfl ?_
      refine v_imul C dMo_likeFirst_29 ?_
      refine v_iload_n C 2 dMo_likeFirst_30 rfl rfl ?_
      refine v_iadd C dMo_likeFirst_31 ?_
      refine v_ialdN C (q := (16 * k + i)) (by assumption) (by first | rfl | (simp only [n16I, n2001I, nI_add, pk_mul, nI_1])) (by omega) (by decide) ((hl i hi).1) dMo_likeFirst_32 ?_
      refine v_ialdN C (q := (L (16 * k + i))) (by assumption) (by first | rfl | (simp only [n16I, n2001I, nI_add, pk_mul, nI_1])) (by omega) (by decide) (rfl) dMo_likeFirst_33 ?_
      refine v_icmp_eq C 43 dMo_likeFirst_34 (by decide) (fun c34 => ?_) (fun c34 => ?_)
      · refine v_iload_n C 3 dMo_likeFirst_43 rfl rfl ?_
        exact v_iret C M dMo_likeFirst_44 (ble rfl) (ble rfl) (pf_i (by rw [← h2]; simp only [nmF]; rw [if_pos c34]) rfl rfl)
      · refine v_iinc C (nI (j + 1)) dMo_likeFirst_37 rfl (nI_1 j) (ble rfl) rfl ?_
        refine v_goto C 2 dMo_likeFirst_40 (by decide) ?_
        refine ih (j + 1) (by omega) ?_
        rw [← h2]
        simp only [nmF]
        rw [if_neg c34]
  exact loop i 0 (by omega) rfl
theorem c_Mo_likeSecond (l : Launch) (D : va_G) (g : GM) (I : MI) (J : MJ) {m k i : Nat} {L : Nat → Nat} (hM : MoAt g m) (hL : LsOK I m L) (hk : k < 6) (hi : i < 16) : Ct l yMo_likeSecond bMo_likeSecond 4 (some .int) (rmN 0 0) D [.ref m, .int (nI k), .int (nI i)] g I J (PF (some (.int (nI (nmF (fun j => rE I m L k j 8) (rE I m L k i 8) i 0)))) g I J) := by
  refine Ct.of (by decide) (ble rfl) [some (.ref m), some (.int (nI k)), some (.int (nI i)), none] rfl ?_
  intro x C M
  obtain ⟨m0, m1, m2, m3, m4, m5, m6, m7, m8, m9, m10, m11, m12, m13, m14, m15, m16, m17, m18, m19, m20, m21, m22, m23, m24, m25, m26, f2, f3, f4, f6, f7, f8, f9, f10, f11, f12, f13, f14, f16, f17, f18, f19, f20, f21, f22, f23, f24, f25, f26, f32, f33, f34⟩ := id hM
  have hl : ∀ j, j < 16 → I (m + 3) (16 * k + j) = nI (L (16 * k + j)) ∧ L (16 * k + j) < 48 := fun j hj => hL _ (by omega)
  have hli := (hl i hi).2
  refine v_iconst C 0 dMo_likeSecond_0 (by decide) ?_
  refine v_istore_n C 3 dMo_likeSecond_1 rfl (ble rfl) rfl ?_
  have loop : ∀ (q j : Nat), j + q = i → nmF (fun j => rE I m L k j 8) (rE I m L k i 8) q j = nmF (fun j => rE I m L k j 8) (rE I m L k i 8) i 0 → V x g 0 0 I J 2 [some (.ref m), some (.int (nI k)), some (.int (nI i)), some (.int (nI j))] [] := by
    intro q
    induction q with
    | zero =>
      intro j h1 h2
      have hj : j = i := by omega
      subst hj
      refine v_aload_n C 0 dMo_likeSecond_2 rfl rfl ?_
      refine v_getr C cfMo (k := 10) (by assumption) rfl (by assumption) w684 dMo_likeSecond_3 ?_
      refine v_aload_n C 0 dMo_likeSecond_6 rfl rfl ?_
      refine v_getr C cfMo (k := 4) (by assumption) rfl (by assumption) w678 dMo_likeSecond_7 ?_
      refine v_bipush C 16 dMo_likeSecond_10 (by decide) ?_
      refine v_iload_n C 1 dMo_likeSecond_12 rfl rfl ?_
      refine v_imul C dMo_likeSecond_13 ?_
      refine v_iload_n C 3 dMo_likeSecond_14 rfl rfl ?_
      refine v_iadd C dMo_likeSecond_15 ?_
      refine v_ialdN C (q := (16 * k + j)) (by assumption) (by first | rfl | (simp only [n16I, n2001I, nI_add, pk_mul, nI_1])) (by omega) (by decide) ((hl j hi).1) dMo_likeSecond_16 ?_
      refine v_ialdN C (q := (L (16 * k + j))) (by assumption) (by first | rfl | (simp only [n16I, n2001I, nI_add, pk_mul, nI_1])) (by omega) (by decide) (rfl) dMo_likeSecond_17 ?_
      refine v_aload_n C 0 dMo_likeSecond_18 rfl rfl ?_
      refine v_getr C cfMo (k := 10) (by assumption) rfl (by assumption) w684 dMo_likeSecond_19 ?_
      refine v_aload_n C 0 dMo_likeSecond_22 rfl rfl ?_
      refine v_getr C cfMo (k := 4) (by assumption) rfl (by assumption) w678 dMo_likeSecond_23 ?_
      refine v_bipush C 16 dMo_likeSecond_26 (by decide) ?_
      refine v_iload_n C 1 dMo_likeSecond_28 rfl rfl ?_
      refine v_imul C dMo_likeSecond_29 ?_
      refine v_iload_n C 2 dMo_likeSecond_30 rfl rfl ?_
      refine v_iadd C dMo_likeSecond_31 ?_
      refine v_ialdN C (q := (16 * k + j)) (by assumption) (by first | rfl | (simp only [n16I, n2001I, nI_add, pk_mul, nI_1])) (by omega) (by decide) ((hl j hi).1) dMo_likeSecond_32 ?_
      refine v_ialdN C (q := (L (16 * k + j))) (by assumption) (by first | rfl | (simp only [n16I, n2001I, nI_add, pk_mul, nI_1])) (by omega) (by decide) (rfl) dMo_likeSecond_33 ?_
      refine v_icmp_eq C 43 dMo_likeSecond_34 (by decide) (fun _ => ?_) (fun h => absurd rfl h)
      refine v_iload_n C 3 dMo_likeSecond_43 rfl rfl ?_
      exact v_iret C M dMo_likeSecond_44 (ble rfl) (ble rfl) (pf_i (by rw [← h2]; rfl) rfl rfl)
    | succ q ih =>
      intro j h1 h2
      have hj : j < 16 := by omega
      have hlj := (hl j hj).2
      refine v_aload_n C 0 dMo_likeSecond_2 rfl rfl ?_
      refine v_getr C cfMo (k := 10) (by assumption) rfl (by assumption) w684 dMo_likeSecond_3 ?_
      refine v_aload_n C 0 dMo_likeSecond_6 rfl rfl ?_
      refine v_getr C cfMo (k := 4) (by assumption) rfl (by assumption) w678 dMo_likeSecond_7 ?_
      refine v_bipush C 16 dMo_likeSecond_10 (by decide) ?_
      refine v_iload_n C 1 dMo_likeSecond_12 rfl rfl ?_
      refine v_imul C dMo_likeSecond_13 ?_
      refine v_iload_n C 3 dMo_likeSecond_14 rfl rfl ?_
      refine v_iadd C dMo_likeSecond_15 ?_
      refine v_ialdN C (q := (16 * k + j)) (by assumption) (by first | rfl | (simp only [n16I, n2001I, nI_add, pk_mul, nI_1])) (by omega) (by decide) ((hl j hj).1) dMo_likeSecond_16 ?_
      refine v_ialdN C (q := (L (16 * k + j))) (by assumption) (by first | rfl | (simp only [n16I, n2001I, nI_add, pk_mul, nI_1])) (by omega) (by decide) (rfl) dMo_likeSecond_17 ?_
      refine v_aload_n C 0 dMo_likeSecond_18 rfl rfl ?_
      refine v_getr C cfMo (k := 10) (by assumption) rfl (by assumption) w684 dMo_likeSecond_19 ?_
      refine v_aload_n C 0 dMo_likeSecond_22 rfl rfl ?_
      refine v_getr C cfMo (k := 4) (by assumption) rfl (by assumption) w678 dMo_likeSecond_23 ?_
      refine v_bipush C 16 dMo_likeSecond_26 (by decide) ?_
      refine v_iload_n C 1 dMo_likeSecond_28 rfl rfl ?_
      refine v_imul C dMo_likeSecond_29 ?_
      refine v_iload_n C 2 dMo_likeSecond_30 rfl rfl ?_
      refine v_iadd C dMo_likeSecond_31 ?_
      refine v_ialdN C (q := (16 * k + i)) (by assumption) (by first | rfl | (simp only [n16I, n2001I, nI_add, pk_mul, nI_1])) (by omega) (by decide) ((hl i hi).1) dMo_likeSecond_32 ?_
      refine v_ialdN C (q := (L (16 * k + i))) (by assumption) (by first | rfl | (simp only [n16I, n2001I, nI_add, pk_mul, nI_1])) (by omega) (by decide) (rfl) dMo_likeSecond_33 ?_
      refine v_icmp_eq C 43 dMo_likeSecond_34 (by decide) (fun c34 => ?_) (fun c34 => ?_)
      · refine v_iload_n C 3 dMo_likeSecond_43 rfl rfl ?_
        exact v_iret C M dMo_likeSecond_44 (ble rfl) (ble rfl) (pf_i (by rw [← h2]; simp only [nmF]; rw [if_pos c34]) rfl rfl)
      · refine v_iinc C (nI (j + 1)) dMo_likeSecond_37 rfl (nI_1 j) (ble rfl) rfl ?_
        refine v_goto C 2 dMo_likeSecond_40 (by decide) ?_
        refine ih (j + 1) (by omega) ?_
        rw [← h2]
        simp only [nmF]
        rw [if_neg c34]
  exact loop i 0 (by omega) rfl
/-- the name at a place of a state's word -/
def thg (w : Int64) (p : Int32) : Int32 := (jushr w (4 * p) &&& 15).toInt32
theorem c_Mo_thing (l : Launch) (D : va_G) (g : GM) (I : MI) (J : MJ) (w : Int64) (p : Int32) : Ct l yMo_thing bMo_thing 3 (some .int) (rmN 0 0) D [.long w, .int p] g I J (PF (some (.int (thg w p))) g I J) := by
  refine Ct.of (by decide) (ble rfl) [some (.long w), none, some (.int p)] rfl ?_
  intro x C M
  refine v_lload_n C 0 dMo_thing_0 rfl rfl ?_
  refine v_iconst C 4 dMo_thing_1 (by decide) ?_
  refine v_iload_n C 2 dMo_thing_2 rfl rfl ?_
  refine v_imul C dMo_thing_3 ?_
  refine v_lushr C dMo_thing_4 ?_
  refine v_ldc2 C w874 dMo_thing_5 ?_
  refine v_land C dMo_thing_8 ?_
  refine v_l2i C dMo_thing_9 ?_
  exact v_iret C M dMo_thing_10 (ble rfl) (ble rfl) (pf_i rfl rfl rfl)
