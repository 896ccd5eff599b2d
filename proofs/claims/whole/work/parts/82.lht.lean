def thrU (g : GM) (I : MI) (J : MJ) (E0 : String) : String → GM → MI → MJ → Prop := fun E g2 I2 J2 => E = E0 ∧ g2.1 = g.1 ∧ g2.2.1 = g.2.1 ∧ g.2.2 ≤ g2.2.2 ∧ I2 = I ∧ J2 = J
theorem thrU.mk {g : GM} {I : MI} {J : MJ} {E0 : String} : ∀ q, g.2.2 ≤ q → thrU g I J E0 E0 (g.1, g.2.1, q) I J := fun q hq => ⟨rfl, rfl, rfl, hq, rfl, rfl⟩
abbrev badP (p : Int32) : Prop := p < 0 ∨ 8 ≤ p
theorem t_LH_checkProcess (l : Launch) (D : va_G) (g : GM) (I : MI) (J : MJ) {a : Nat} (p : Int32) (hp : badP p) : CtT l yLH_checkProcess bLH_checkProcess 2 none (rmA 6 82 1 6) D [.ref a, .int p] g I J (thrU g I J xA) := by
  refine CtT.of (by decide) (ble rfl) [some (.ref a), some (.int p)] rfl ?_
  intro x C M
  have go : V x g 0 0 I J 10 [some (.ref a), some (.int p)] [] := by
    exact v_throw C M zeA (text := "no such process") (by decide +kernel) dLH_checkProcess_10 dLH_checkProcess_13 dLH_checkProcess_14 dLH_checkProcess_16 dLH_checkProcess_19 (ble rfl) (ble rfl) (ble rfl) (ble rfl) thrU.mk
  refine v_iload_n C 1 dLH_checkProcess_0 rfl rfl ?_
  refine v_if_lt C 10 dLH_checkProcess_1 (by decide) (fun c1 => ?_) (fun c1 => ?_)
  · exact go
  · refine v_iload_n C 1 dLH_checkProcess_4 rfl rfl ?_
    refine v_bipush C 8 dLH_checkProcess_5 (by decide) ?_
    refine v_icmp_lt C 20 dLH_checkProcess_7 (by decide) (fun h => absurd h (fun h => hp.elim c1 (fun h9 => absurd h (Int32.not_lt.mpr h9)))) (fun _ => ?_)
    exact go
theorem t_LH_checkLinear (l : Launch) (D : va_G) (g : GM) (I : MI) (J : MJ) {a : Nat} (z : Int32) (hz : z ≠ 1) : CtT l yLH_checkLinear bLH_checkLinear 2 none (rmA 6 82 1 6) D [.ref a, .int z] g I J (thrU g I J xS) := by
  refine CtT.of (by decide) (ble rfl) [some (.ref a), some (.int z)] rfl ?_
  intro x C M
  refine v_iload_n C 1 dLH_checkLinear_0 rfl rfl ?_
  refine v_iconst C 1 dLH_checkLinear_1 (by decide) ?_
  refine v_icmp_eq C 15 dLH_checkLinear_2 (by decide) (fun h => absurd h hz) (fun _ => ?_)
  exact v_throw C M zeS (text := "the history is not linear") (by decide +kernel) dLH_checkLinear_5 dLH_checkLinear_8 dLH_checkLinear_9 dLH_checkLinear_11 dLH_checkLinear_14 (ble rfl) (ble rfl) (ble rfl) (ble rfl) thrU.mk
theorem t_LH_checkPlace (l : Launch) (D : va_G) (g : GM) (I : MI) (J : MJ) {a : Nat} (i : Int32) (a0 : g.1 a = (5, 0)) (hi : i < 0 ∨ I a 9 ≤ i) : CtT l yLH_checkPlace bLH_checkPlace 2 none (rmA 6 82 1 6) D [.ref a, .int i] g I J (thrU g I J xB) := by
  refine CtT.of (by decide) (ble rfl) [some (.ref a), some (.int i)] rfl ?_
  intro x C M
  have go : V x g 0 0 I J 12 [some (.ref a), some (.int i)] [] := by
    exact v_throw C M zeB (text := "no such place in the row") (by decide +kernel) dLH_checkPlace_12 dLH_checkPlace_15 dLH_checkPlace_16 dLH_checkPlace_18 dLH_checkPlace_21 (ble rfl) (ble rfl) (ble rfl) (ble rfl) thrU.mk
  refine v_iload_n C 1 dLH_checkPlace_0 rfl rfl ?_
  refine v_if_lt C 12 dLH_checkPlace_1 (by decide) (fun c1 => ?_) (fun c1 => ?_)
  · exact go
  · refine v_iload_n C 1 dLH_checkPlace_4 rfl rfl ?_
    refine v_aload_n C 0 dLH_checkPlace_5 rfl rfl ?_
    refine v_geti C cfLH (k := 9) (by assumption) rfl w120 dLH_checkPlace_6 ?_
    refine v_icmp_lt C 22 dLH_checkPlace_9 (by decide) (fun h => absurd h (fun h => hi.elim c1 (fun h9 => absurd h (Int32.not_lt.mpr h9)))) (fun _ => ?_)
    exact go
theorem t_LH_subjectOf (l : Launch) (D : va_G) (g : GM) (I : MI) (J : MJ) {a no : Nat} (k : Int32) (a0 : g.1 a = (5, 0)) (hno : I a 11 = nI no) (hk : noOb no k) : CtT l yLH_subjectOf bLH_subjectOf 2 (some (.object "LinearHistories$Subject")) (rmA 6 82 1 6) D [.ref a, .int k] g I J (thrU g I J xA) := by
  refine CtT.of (by decide) (ble rfl) [some (.ref a), some (.int k)] rfl ?_
  intro x C M
  have go : V x g 0 0 I J 21 [some (.ref a), some (.int k)] [] := by
    exact v_throw C M zeA (text := "no such object") (by decide +kernel) dLH_subjectOf_21 dLH_subjectOf_24 dLH_subjectOf_25 dLH_subjectOf_27 dLH_subjectOf_30 (ble rfl) (ble rfl) (ble rfl) (ble rfl) thrU.mk
  refine v_iload_n C 1 dLH_subjectOf_0 rfl rfl ?_
  refine v_if_lt C 21 dLH_subjectOf_1 (by decide) (fun c1 => ?_) (fun c1 => ?_)
  · exact go
  · refine v_iload_n C 1 dLH_subjectOf_4 rfl rfl ?_
    refine v_aload_n C 0 dLH_subjectOf_5 rfl rfl ?_
    refine v_getiN C cfLH (k := 11) (by assumption) rfl w122 dLH_subjectOf_6 (hno) ?_
    refine v_icmp_ge C 21 dLH_subjectOf_9 (by decide) (fun _ => ?_) (fun h => absurd (hk.elim (fun h => absurd h c1) id) h)
    exact go
theorem t_LH_operationOf_p (l : Launch) (D : va_G) (g : GM) (I : MI) (J : MJ) {a : Nat} (p : Int32) (a0 : g.1 a = (5, 0)) (hp : badP p) : CtT l yLH_operationOf bLH_operationOf 2 (some .int) (rmA 7 103 1 6) D [.ref a, .int p] g I J (thrU g I J xA) := by
  refine CtT.of (by decide) (ble rfl) [some (.ref a), some (.int p)] rfl ?_
  intro x C M
  refine v_aload_n C 0 dLH_operationOf_0 rfl rfl ?_
  refine v_iload_n C 1 dLH_operationOf_1 rfl rfl ?_
  exact v_outV C M (t_LH_checkProcess (kl x) (kD x) g I J p hp) mwLH_checkProcess cfLH (by assumption) w467 ws13 w465 rfl rfl (ble rfl) (ble rfl) (ble rfl) (ble rfl) (ble rfl) dLH_operationOf_2 (fun _ _ _ _ h => h)
theorem t_LH_operationOf_w (l : Launch) (D : va_G) (g : GM) (I : MI) (J : MJ) {a p : Nat} (hA : LHAt g a) (hp : p < 8) (hw : I (a + 5) p = -1) : CtT l yLH_operationOf bLH_operationOf 2 (some .int) (rmA 7 103 1 6) D [.ref a, .int (nI p)] g I J (thrU g I J xS) := by
  refine CtT.of (by decide) (ble rfl) [some (.ref a), some (.int (nI p))] rfl ?_
  intro x C M
  obtain ⟨a0, a1, a2, a3, a4, a5, hS, a15, a16, a17, r0, r1, r2, r3, r4, r5, r6, r7, r8⟩ := id hA
  refine v_aload_n C 0 dLH_operationOf_0 rfl rfl ?_
  refine v_iload_n C 1 dLH_operationOf_1 rfl rfl ?_
  refine v_cVv C (c_LH_checkProcess (kl x) (kD x) g I J hp) mwLH_checkProcess cfLH (by assumption) w467 ws13 w465 rfl rfl (ble rfl) (ble rfl) (ble rfl) (ble rfl) (ble rfl) dLH_operationOf_2 ?_
  refine v_aload_n C 0 dLH_operationOf_5 rfl rfl ?_
  refine v_getr C cfLH (k := 4) (by assumption) rfl (by assumption) w115 dLH_operationOf_6 ?_
  refine v_iload_n C 1 dLH_operationOf_9 rfl rfl ?_
  refine v_ialdN C (q := (p)) (by assumption) (by first | rfl | (simp only [n16I, n2001I, nI_add, pk_mul, nI_1])) (by omega) (by decide) (hw) dLH_operationOf_10 ?_
  refine v_iconst C (-1) dLH_operationOf_11 (by decide) ?_
  refine v_icmp_ne C 25 dLH_operationOf_12 (by decide) (fun h => absurd rfl h) (fun _ => ?_)
  exact v_throw C M zeS (text := "the process waits for no operation") (by decide +kernel) dLH_operationOf_15 dLH_operationOf_18 dLH_operationOf_19 dLH_operationOf_21 dLH_operationOf_24 (ble rfl) (ble rfl) (ble rfl) (ble rfl) thrU.mk
theorem t_LH_object (l : Launch) (D : va_G) (g : GM) (I : MI) (J : MJ) {a : Nat} (kind : Int32) (hk : kind < 0 ∨ 5 < kind) : CtT l yLH_object bLH_object 3 (some .int) (rmA 6 82 1 6) D [.ref a, .int kind] g I J (thrU g I J xA) := by
  refine CtT.of (by decide) (ble rfl) [some (.ref a), some (.int kind), none] rfl ?_
  intro x C M
  have go : V x g 0 0 I J 9 [some (.ref a), some (.int kind), none] [] := by
    exact v_throw C M zeA (text := "no such kind") (by decide +kernel) dLH_object_9 dLH_object_12 dLH_object_13 dLH_object_15 dLH_object_18 (ble rfl) (ble rfl) (ble rfl) (ble rfl) thrU.mk
  refine v_iload_n C 1 dLH_object_0 rfl rfl ?_
  refine v_if_lt C 9 dLH_object_1 (by decide) (fun c1 => ?_) (fun c1 => ?_)
  · exact go
  · refine v_iload_n C 1 dLH_object_4 rfl rfl ?_
    refine v_iconst C 5 dLH_object_5 (by decide) ?_
    refine v_icmp_le C 19 dLH_object_6 (by decide) (fun h => absurd h (fun h => hk.elim c1 (fun h9 => absurd h9 (Int32.not_lt.mpr h)))) (fun _ => ?_)
    exact go
theorem t_LH_call_p (l : Launch) (D : va_G) (g : GM) (I : MI) (J : MJ) {a : Nat} (p k code va vb : Int32) (a0 : g.1 a = (5, 0)) (hp : badP p) : CtT l yLH_call bLH_call 8 (some .int) (rmA 7 103 1 6) D [.ref a, .int p, .int k, .int code, .int va, .int vb] g I J (thrU g I J xA) := by
  refine CtT.of (by decide) (ble rfl) [some (.ref a), some (.int p), some (.int k), some (.int code), some (.int va), some (.int vb), none, none] rfl ?_
  intro x C M
  refine v_aload_n C 0 dLH_call_0 rfl rfl ?_
  refine v_iload_n C 1 dLH_call_1 rfl rfl ?_
  exact v_outV C M (t_LH_checkProcess (kl x) (kD x) g I J p hp) mwLH_checkProcess cfLH (by assumption) w467 ws13 w465 rfl rfl (ble rfl) (ble rfl) (ble rfl) (ble rfl) (ble rfl) dLH_call_2 (fun _ _ _ _ h => h)
theorem t_LH_call_k (l : Launch) (D : va_G) (g : GM) (I : MI) (J : MJ) {a p no : Nat} (k code va vb : Int32) (a0 : g.1 a = (5, 0)) (hp : p < 8) (hno : I a 11 = nI no) (hk : noOb no k) : CtT l yLH_call bLH_call 8 (some .int) (rmA 7 103 1 6) D [.ref a, .int (nI p), .int k, .int code, .int va, .int vb] g I J (thrU g I J xA) := by
  refine CtT.of (by decide) (ble rfl) [some (.ref a), some (.int (nI p)), some (.int k), some (.int code), some (.int va), some (.int vb), none, none] rfl ?_
  intro x C M
  refine v_aload_n C 0 dLH_call_0 rfl rfl ?_
  refine v_iload_n C 1 dLH_call_1 rfl rfl ?_
  refine v_cVv C (c_LH_checkProcess (kl x) (kD x) g I J hp) mwLH_checkProcess cfLH (by assumption) w467 ws13 w465 rfl rfl (ble rfl) (ble rfl) (ble rfl) (ble rfl) (ble rfl) dLH_call_2 ?_
  refine v_aload_n C 0 dLH_call_5 rfl rfl ?_
  refine v_iload_n C 2 dLH_call_6 rfl rfl ?_
  exact v_outV C M (t_LH_subjectOf (kl x) (kD x) g I J k a0 hno hk) mwLH_subjectOf cfLH (by assumption) w171 ws0 w169 rfl rfl (ble rfl) (ble rfl) (ble rfl) (ble rfl) (ble rfl) dLH_call_7 (fun _ _ _ _ h => h)
theorem t_LH_call_c (l : Launch) (D : va_G) (g : GM) (I : MI) (J : MJ) {a p k no u : Nat} (code va vb : Int32) (hA : LHAt g a) (hp : p < 8) (hno : I a 11 = nI no) (hno2 : no ≤ 6) (hk : k < no) (hb : g.2.1 (a + 1) k = some u) (hU : SuAt g u) (hc : code < 0 ∨ (if I u 5 = 0 then 5 else 3) ≤ code) : CtT l yLH_call bLH_call 8 (some .int) (rmA 7 103 1 6) D [.ref a, .int (nI p), .int (nI k), .int code, .int va, .int vb] g I J (thrU g I J xA) := by
  refine CtT.of (by decide) (ble rfl) [some (.ref a), some (.int (nI p)), some (.int (nI k)), some (.int code), some (.int va), some (.int vb), none, none] rfl ?_
  intro x C M
  have a0 := hA.1
  have u0 := hU.1
  refine v_aload_n C 0 dLH_call_0 rfl rfl ?_
  refine v_iload_n C 1 dLH_call_1 rfl rfl ?_
  refine v_cVv C (c_LH_checkProcess (kl x) (kD x) g I J hp) mwLH_checkProcess cfLH (by assumption) w467 ws13 w465 rfl rfl (ble rfl) (ble rfl) (ble rfl) (ble rfl) (ble rfl) dLH_call_2 ?_
  refine v_aload_n C 0 dLH_call_5 rfl rfl ?_
  refine v_iload_n C 2 dLH_call_6 rfl rfl ?_
  refine v_cVr C (c_LH_subjectOf (kl x) (kD x) g I J hA hno hno2 hk hb) mwLH_subjectOf cfLH (by assumption) w171 ws0 w169 rfl rfl (ble rfl) (ble rfl) (ble rfl) (ble rfl) (ble rfl) dLH_call_7 ?_
  have go : V x g 0 0 I J 25 [some (.ref a), some (.int (nI p)), some (.int (nI k)), some (.int code), some (.int va), some (.int vb), some (.ref u), none] [] := by
    exact v_throw C M zeA (text := "no such operation") (by decide +kernel) dLH_call_25 dLH_call_28 dLH_call_29 dLH_call_31 dLH_call_34 (ble rfl) (ble rfl) (ble rfl) (ble rfl) thrU.mk
  refine v_astore C dLH_call_10 (ble rfl) rfl ?_
  refine v_iload_n C 3 dLH_call_12 rfl rfl ?_
  refine v_if_lt C 25 dLH_call_13 (by decide) (fun c13 => ?_) (fun c13 => ?_)
  · exact go
  · refine v_iload_n C 3 dLH_call_16 rfl rfl ?_
    refine v_aload C dLH_call_17 rfl ?_
    refine v_cVi C (c_Su_operationsOfKind (kl x) (kD x) g I J u0) mwSu_operationsOfKind cfSu (by assumption) w471 w472 w470 rfl rfl (ble rfl) (ble rfl) (ble rfl) (ble rfl) (ble rfl) dLH_call_19 ?_
    refine v_icmp_lt C 35 dLH_call_22 (by decide) (fun h => absurd h (fun h => hc.elim c13 (fun h9 => absurd h (Int32.not_lt.mpr h9)))) (fun _ => ?_)
    exact go
theorem t_LH_call_w (l : Launch) (D : va_G) (g : GM) (I : MI) (J : MJ) {a p k no u : Nat} (code va vb : Int32) (hA : LHAt g a) (hp : p < 8) (hno : I a 11 = nI no) (hno2 : no ≤ 6) (hk : k < no) (hb : g.2.1 (a + 1) k = some u) (hU : SuAt g u) (hc0 : ¬ code < 0) (hc1 : code < (if I u 5 = 0 then 5 else 3)) (hw : I (a + 5) p ≠ -1) : CtT l yLH_call bLH_call 8 (some .int) (rmA 7 103 1 6) D [.ref a, .int (nI p), .int (nI k), .int code, .int va, .int vb] g I J (thrU g I J xS) := by
  refine CtT.of (by decide) (ble rfl) [some (.ref a), some (.int (nI p)), some (.int (nI k)), some (.int code), some (.int va), some (.int vb), none, none] rfl ?_
  intro x C M
  obtain ⟨a0, a1, a2, a3, a4, a5, hS, a15, a16, a17, r0, r1, r2, r3, r4, r5, r6, r7, r8⟩ := id hA
  have u0 := hU.1
  refine v_aload_n C 0 dLH_call_0 rfl rfl ?_
  refine v_iload_n C 1 dLH_call_1 rfl rfl ?_
  refine v_cVv C (c_LH_checkProcess (kl x) (kD x) g I J hp) mwLH_checkProcess cfLH (by assumption) w467 ws13 w465 rfl rfl (ble rfl) (ble rfl) (ble rfl) (ble rfl) (ble rfl) dLH_call_2 ?_
  refine v_aload_n C 0 dLH_call_5 rfl rfl ?_
  refine v_iload_n C 2 dLH_call_6 rfl rfl ?_
  refine v_cVr C (c_LH_subjectOf (kl x) (kD x) g I J hA hno hno2 hk hb) mwLH_subjectOf cfLH (by assumption) w171 ws0 w169 rfl rfl (ble rfl) (ble rfl) (ble rfl) (ble rfl) (ble rfl) dLH_call_7 ?_
  refine v_astore C dLH_call_10 (ble rfl) rfl ?_
  refine v_iload_n C 3 dLH_call_12 rfl rfl ?_
  refine v_if_lt C 25 dLH_call_13 (by decide) (fun h => absurd h hc0) (fun _ => ?_)
  refine v_iload_n C 3 dLH_call_16 rfl rfl ?_
  refine v_aload C dLH_call_17 rfl ?_
  refine v_cVi C (c_Su_operationsOfKind (kl x) (kD x) g I J u0) mwSu_operationsOfKind cfSu (by assumption) w471 w472 w470 rfl rfl (ble rfl) (ble rfl) (ble rfl) (ble rfl) (ble rfl) dLH_call_19 ?_
  refine v_icmp_lt C 35 dLH_call_22 (by decide) (fun _ => ?_) (fun h => absurd hc1 h)
  refine v_aload_n C 0 dLH_call_35 rfl rfl ?_
  refine v_getr C cfLH (k := 4) (by assumption) rfl (by assumption) w115 dLH_call_36 ?_
  refine v_iload_n C 1 dLH_call_39 rfl rfl ?_
  refine v_ialdN C (q := (p)) (by assumption) (by first | rfl | (simp only [n16I, n2001I, nI_add, pk_mul, nI_1])) (by omega) (by decide) (rfl) dLH_call_40 ?_
  refine v_iconst C (-1) dLH_call_41 (by decide) ?_
  refine v_icmp_eq C 55 dLH_call_42 (by decide) (fun h => absurd h hw) (fun _ => ?_)
  exact v_throw C M zeS (text := "the process waits for an operation") (by decide +kernel) dLH_call_45 dLH_call_48 dLH_call_49 dLH_call_51 dLH_call_54 (ble rfl) (ble rfl) (ble rfl) (ble rfl) thrU.mk
theorem t_LH_back_p (l : Launch) (D : va_G) (g : GM) (I : MI) (J : MJ) {a : Nat} (p its : Int32) (a0 : g.1 a = (5, 0)) (hp : badP p) : CtT l yLH_back bLH_back 4 none (rmA 8 124 1 6) D [.ref a, .int p, .int its] g I J (thrU g I J xA) := by
  refine CtT.of (by decide) (ble rfl) [some (.ref a), some (.int p), some (.int its), none] rfl ?_
  intro x C M
  refine v_aload_n C 0 dLH_back_0 rfl rfl ?_
  refine v_iload_n C 1 dLH_back_1 rfl rfl ?_
  exact v_outV C M (t_LH_operationOf_p (kl x) (kD x) g I J p a0 hp) mwLH_operationOf cfLH (by assumption) w516 ws14 w514 rfl rfl (ble rfl) (ble rfl) (ble rfl) (ble rfl) (ble rfl) dLH_back_2 (fun _ _ _ _ h => h)
theorem t_LH_back_w (l : Launch) (D : va_G) (g : GM) (I : MI) (J : MJ) {a p : Nat} (its : Int32) (hA : LHAt g a) (hp : p < 8) (hw : I (a + 5) p = -1) : CtT l yLH_back bLH_back 4 none (rmA 8 124 1 6) D [.ref a, .int (nI p), .int its] g I J (thrU g I J xS) := by
  refine CtT.of (by decide) (ble rfl) [some (.ref a), some (.int (nI p)), some (.int its), none] rfl ?_
  intro x C M
  have a0 := hA.1
  refine v_aload_n C 0 dLH_back_0 rfl rfl ?_
  refine v_iload_n C 1 dLH_back_1 rfl rfl ?_
  exact v_outV C M (t_LH_operationOf_w (kl x) (kD x) g I J hA hp hw) mwLH_operationOf cfLH (by assumption) w516 ws14 w514 rfl rfl (ble rfl) (ble rfl) (ble rfl) (ble rfl) (ble rfl) dLH_back_2 (fun _ _ _ _ h => h)
theorem t_LH_lose_p (l : Launch) (D : va_G) (g : GM) (I : MI) (J : MJ) {a : Nat} (p : Int32) (a0 : g.1 a = (5, 0)) (hp : badP p) : CtT l yLH_lose bLH_lose 2 none (rmA 8 124 1 6) D [.ref a, .int p] g I J (thrU g I J xA) := by
  refine CtT.of (by decide) (ble rfl) [some (.ref a), some (.int p)] rfl ?_
  intro x C M
  refine v_aload_n C 0 dLH_lose_0 rfl rfl ?_
  refine v_iload_n C 1 dLH_lose_1 rfl rfl ?_
  exact v_outV C M (t_LH_operationOf_p (kl x) (kD x) g I J p a0 hp) mwLH_operationOf cfLH (by assumption) w516 ws14 w514 rfl rfl (ble rfl) (ble rfl) (ble rfl) (ble rfl) (ble rfl) dLH_lose_2 (fun _ _ _ _ h => h)
theorem t_LH_lose_w (l : Launch) (D : va_G) (g : GM) (I : MI) (J : MJ) {a p : Nat} (hA : LHAt g a) (hp : p < 8) (hw : I (a + 5) p = -1) : CtT l yLH_lose bLH_lose 2 none (rmA 8 124 1 6) D [.ref a, .int (nI p)] g I J (thrU g I J xS) := by
  refine CtT.of (by decide) (ble rfl) [some (.ref a), some (.int (nI p))] rfl ?_
  intro x C M
  have a0 := hA.1
  refine v_aload_n C 0 dLH_lose_0 rfl rfl ?_
  refine v_iload_n C 1 dLH_lose_1 rfl rfl ?_
  exact v_outV C M (t_LH_operationOf_w (kl x) (kD x) g I J hA hp hw) mwLH_operationOf cfLH (by assumption) w516 ws14 w514 rfl rfl (ble rfl) (ble rfl) (ble rfl) (ble rfl) (ble rfl) dLH_lose_2 (fun _ _ _ _ h => h)
theorem t_LH_learnedSubject (l : Launch) (D : va_G) (g : GM) (I : MI) (J : MJ) {a no : Nat} (k : Int32) (a0 : g.1 a = (5, 0)) (hno : I a 11 = nI no) (hk : noOb no k) : CtT l yLH_learnedSubject bLH_learnedSubject 3 (some (.object "LinearHistories$Subject")) (rmA 7 103 1 6) D [.ref a, .int k] g I J (thrU g I J xA) := by
  refine CtT.of (by decide) (ble rfl) [some (.ref a), some (.int k), none] rfl ?_
  intro x C M
  refine v_aload_n C 0 dLH_learnedSubject_0 rfl rfl ?_
  refine v_iload_n C 1 dLH_learnedSubject_1 rfl rfl ?_
  exact v_outV C M (t_LH_subjectOf (kl x) (kD x) g I J k a0 hno hk) mwLH_subjectOf cfLH (by assumption) w171 ws0 w169 rfl rfl (ble rfl) (ble rfl) (ble rfl) (ble rfl) (ble rfl) dLH_learnedSubject_2 (fun _ _ _ _ h => h)
theorem t_LH_possibilities (l : Launch) (D : va_G) (g : GM) (I : MI) (J : MJ) {a no : Nat} (k : Int32) (a0 : g.1 a = (5, 0)) (hno : I a 11 = nI no) (hk : noOb no k) : CtT l yLH_possibilities bLH_possibilities 2 (some .int) (rmA 8 125 1 6) D [.ref a, .int k] g I J (thrU g I J xA) := by
  refine CtT.of (by decide) (ble rfl) [some (.ref a), some (.int k)] rfl ?_
  intro x C M
  refine v_aload_n C 0 dLH_possibilities_0 rfl rfl ?_
  refine v_iload_n C 1 dLH_possibilities_1 rfl rfl ?_
  exact v_outV C M (t_LH_learnedSubject (kl x) (kD x) g I J k a0 hno hk) mwLH_learnedSubject cfLH (by assumption) w539 ws15 w537 rfl rfl (ble rfl) (ble rfl) (ble rfl) (ble rfl) (ble rfl) dLH_possibilities_2 (fun _ _ _ _ h => h)
theorem t_LH_judge (l : Launch) (D : va_G) (g : GM) (I : MI) (J : MJ) {a no : Nat} (k : Int32) (a0 : g.1 a = (5, 0)) (hno : I a 11 = nI no) (hk : noOb no k) : CtT l yLH_judge bLH_judge 2 (some .int) (rmA 8 125 1 6) D [.ref a, .int k] g I J (thrU g I J xA) := by
  refine CtT.of (by decide) (ble rfl) [some (.ref a), some (.int k)] rfl ?_
  intro x C M
  refine v_aload_n C 0 dLH_judge_0 rfl rfl ?_
  refine v_iload_n C 1 dLH_judge_1 rfl rfl ?_
  exact v_outV C M (t_LH_learnedSubject (kl x) (kD x) g I J k a0 hno hk) mwLH_learnedSubject cfLH (by assumption) w539 ws15 w537 rfl rfl (ble rfl) (ble rfl) (ble rfl) (ble rfl) (ble rfl) dLH_judge_2 (fun _ _ _ _ h => h)
theorem t_LH_lasts (l : Launch) (D : va_G) (g : GM) (I : MI) (J : MJ) {a no : Nat} (k : Int32) (a0 : g.1 a = (5, 0)) (hno : I a 11 = nI no) (hk : noOb no k) : CtT l yLH_lasts bLH_lasts 2 (some .int) (rmA 8 125 1 6) D [.ref a, .int k] g I J (thrU g I J xA) := by
  refine CtT.of (by decide) (ble rfl) [some (.ref a), some (.int k)] rfl ?_
  intro x C M
  refine v_aload_n C 0 dLH_lasts_0 rfl rfl ?_
  refine v_iload_n C 1 dLH_lasts_1 rfl rfl ?_
  exact v_outV C M (t_LH_learnedSubject (kl x) (kD x) g I J k a0 hno hk) mwLH_learnedSubject cfLH (by assumption) w539 ws15 w537 rfl rfl (ble rfl) (ble rfl) (ble rfl) (ble rfl) (ble rfl) dLH_lasts_2 (fun _ _ _ _ h => h)
theorem t_LH_ways (l : Launch) (D : va_G) (g : GM) (I : MI) (J : MJ) {a no : Nat} (k : Int32) (a0 : g.1 a = (5, 0)) (hno : I a 11 = nI no) (hk : noOb no k) : CtT l yLH_ways bLH_ways 2 (some .long) (rmA 8 125 1 6) D [.ref a, .int k] g I J (thrU g I J xA) := by
  refine CtT.of (by decide) (ble rfl) [some (.ref a), some (.int k)] rfl ?_
  intro x C M
  refine v_aload_n C 0 dLH_ways_0 rfl rfl ?_
  refine v_iload_n C 1 dLH_ways_1 rfl rfl ?_
  exact v_outV C M (t_LH_learnedSubject (kl x) (kD x) g I J k a0 hno hk) mwLH_learnedSubject cfLH (by assumption) w539 ws15 w537 rfl rfl (ble rfl) (ble rfl) (ble rfl) (ble rfl) (ble rfl) dLH_ways_2 (fun _ _ _ _ h => h)
theorem t_LH_judgeOwn (l : Launch) (D : va_G) (g : GM) (I : MI) (J : MJ) {a no : Nat} (k : Int32) (a0 : g.1 a = (5, 0)) (hno : I a 11 = nI no) (hk : noOb no k) : CtT l yLH_judgeOwn bLH_judgeOwn 3 (some .int) (rmA 8 125 1 6) D [.ref a, .int k] g I J (thrU g I J xA) := by
  refine CtT.of (by decide) (ble rfl) [some (.ref a), some (.int k), none] rfl ?_
  intro x C M
  refine v_aload_n C 0 dLH_judgeOwn_0 rfl rfl ?_
  refine v_iload_n C 1 dLH_judgeOwn_1 rfl rfl ?_
  exact v_outV C M (t_LH_subjectOf (kl x) (kD x) g I J k a0 hno hk) mwLH_subjectOf cfLH (by assumption) w171 ws0 w169 rfl rfl (ble rfl) (ble rfl) (ble rfl) (ble rfl) (ble rfl) dLH_judgeOwn_2 (fun _ _ _ _ h => h)
theorem t_LH_broken (l : Launch) (D : va_G) (g : GM) (I : MI) (J : MJ) {a no : Nat} (k : Int32) (a0 : g.1 a = (5, 0)) (hno : I a 11 = nI no) (hk : noOb no k) : CtT l yLH_broken bLH_broken 3 (some .int) (rmA 8 125 1 6) D [.ref a, .int k] g I J (thrU g I J xA) := by
  refine CtT.of (by decide) (ble rfl) [some (.ref a), some (.int k), none] rfl ?_
  intro x C M
  refine v_aload_n C 0 dLH_broken_0 rfl rfl ?_
  refine v_iload_n C 1 dLH_broken_1 rfl rfl ?_
  exact v_outV C M (t_LH_subjectOf (kl x) (kD x) g I J k a0 hno hk) mwLH_subjectOf cfLH (by assumption) w171 ws0 w169 rfl rfl (ble rfl) (ble rfl) (ble rfl) (ble rfl) (ble rfl) dLH_broken_2 (fun _ _ _ _ h => h)
/-! length, row, result, over what linear() and buildRow() do -/
abbrev LinC (g : GM) (I : MI) (J : MJ) (a : Nat) (z : Int32) (Q : MI → MJ → Prop) : Prop := ∀ (l : Launch) (D : va_G), Ct l yLH_linear bLH_linear 4 (some .int) (rmN 6 149) D [.ref a] g I J (fun v g2 I2 J2 => v = some (.int z) ∧ g2 = g ∧ Q I2 J2)
abbrev BldC (g : GM) (I : MI) (J : MJ) (a : Nat) (Q : MI → MJ → Prop) : Prop := ∀ (l : Launch) (D : va_G), Ct l yLH_buildRow bLH_buildRow 4 none (rmN 6 150) D [.ref a] g I J (fun v g2 I2 J2 => v = none ∧ g2 = g ∧ Q I2 J2)
def thrR (g : GM) (Q : MI → MJ → Prop) (E0 : String) : String → GM → MI → MJ → Prop := fun E g2 I2 J2 => E = E0 ∧ g2.1 = g.1 ∧ g2.2.1 = g.2.1 ∧ g.2.2 ≤ g2.2.2 ∧ Q I2 J2
theorem thrU.R {g : GM} {I : MI} {J : MJ} {E0 : String} {Q : MI → MJ → Prop} (hq : Q I J) : ∀ (E : String) (g2 : GM) (I2 : MI) (J2 : MJ), thrU g I J E0 E g2 I2 J2 → thrR g Q E0 E g2 I2 J2 := fun E g2 I2 J2 h => ⟨h.1, h.2.1, h.2.2.1, h.2.2.2.1, by rw [h.2.2.2.2.1, h.2.2.2.2.2]; exact hq⟩
theorem c_LH_length (l : Launch) (D : va_G) (g : GM) (I : MI) (J : MJ) {a : Nat} {Q1 Q2 : MI → MJ → Prop} (a0 : g.1 a = (5, 0)) (hl : LinC g I J a 1 Q1) (hb : ∀ I2 J2, Q1 I2 J2 → BldC g I2 J2 a Q2) : Ct l yLH_length bLH_length 1 (some .int) (rmN 7 173) D [.ref a] g I J (fun v g2 I2 J2 => g2 = g ∧ Q2 I2 J2 ∧ v = some (.int (I2 a 9))) := by
  refine Ct.of (by decide) (ble rfl) [some (.ref a)] rfl ?_
  intro x C M
  refine v_aload_n C 0 dLH_length_0 rfl rfl ?_
  refine v_aload_n C 0 dLH_length_1 rfl rfl ?_
  refine v_callV C (hl (kl x) (kD x)) mwLH_linear cfLH (by assumption) w166 w167 w592 rfl rfl (ble rfl) (ble rfl) (ble rfl) (ble rfl) (ble rfl) dLH_length_2 ?_
  rintro v g2 I2 J2 ⟨rfl, rfl, hq⟩
  refine v_cVv C (c_LH_checkLinear (kl x) (kD x) g2 I2 J2) mwLH_checkLinear cfLH (by assumption) w595 ws16 w593 rfl rfl (ble rfl) (ble rfl) (ble rfl) (ble rfl) (ble rfl) dLH_length_5 ?_
  refine v_aload_n C 0 dLH_length_8 rfl rfl ?_
  refine v_callV C (hb I2 J2 hq (kl x) (kD x)) mwLH_buildRow cfLH (by assumption) w600 ws17 w598 rfl rfl (ble rfl) (ble rfl) (ble rfl) (ble rfl) (ble rfl) dLH_length_9 ?_
  rintro v g3 I3 J3 ⟨rfl, rfl, hq3⟩
  refine v_aload_n C 0 dLH_length_12 rfl rfl ?_
  refine v_geti C cfLH (k := 9) (by assumption) rfl w120 dLH_length_13 ?_
  exact v_iret C M dLH_length_16 (ble rfl) (ble rfl) ⟨rfl, hq3, rfl⟩
theorem t_LH_length (l : Launch) (D : va_G) (g : GM) (I : MI) (J : MJ) {a : Nat} {z : Int32} {Q1 : MI → MJ → Prop} (a0 : g.1 a = (5, 0)) (hz : z ≠ 1) (hl : LinC g I J a z Q1) : CtT l yLH_length bLH_length 1 (some .int) (rmA 7 173 1 6) D [.ref a] g I J (thrR g Q1 xS) := by
  refine CtT.of (by decide) (ble rfl) [some (.ref a)] rfl ?_
  intro x C M
  refine v_aload_n C 0 dLH_length_0 rfl rfl ?_
  refine v_aload_n C 0 dLH_length_1 rfl rfl ?_
  refine v_callV C (hl (kl x) (kD x)) mwLH_linear cfLH (by assumption) w166 w167 w592 rfl rfl (ble rfl) (ble rfl) (ble rfl) (ble rfl) (ble rfl) dLH_length_2 ?_
  rintro v g2 I2 J2 ⟨rfl, rfl, hq⟩
  exact v_outV C M (t_LH_checkLinear (kl x) (kD x) _ I2 J2 z hz) mwLH_checkLinear cfLH (by assumption) w595 ws16 w593 rfl rfl (ble rfl) (ble rfl) (ble rfl) (ble rfl) (ble rfl) dLH_length_5 (thrU.R hq)
theorem c_LH_row (l : Launch) (D : va_G) (g : GM) (I : MI) (J : MJ) {a i : Nat} {Q1 Q2 : MI → MJ → Prop} (hA : LHAt g a) (hl : LinC g I J a 1 Q1) (hb : ∀ I2 J2, Q1 I2 J2 → BldC g I2 J2 a Q2) (hq2 : ∀ I2 J2, Q2 I2 J2 → ∃ len, len ≤ 48 ∧ I2 a 9 = nI len ∧ i < len) : Ct l yLH_row bLH_row 2 (some .int) (rmN 7 173) D [.ref a, .int (nI i)] g I J (fun v g2 I2 J2 => g2 = g ∧ Q2 I2 J2 ∧ v = some (.int (I2 (a + 15) i))) := by
  refine Ct.of (by decide) (ble rfl) [some (.ref a), some (.int (nI i))] rfl ?_
  intro x C M
  obtain ⟨a0, a1, a2, a3, a4, a5, hS, a15, a16, a17, r0, r1, r2, r3, r4, r5, r6, r7, r8⟩ := id hA
  refine v_aload_n C 0 dLH_row_0 rfl rfl ?_
  refine v_aload_n C 0 dLH_row_1 rfl rfl ?_
  refine v_callV C (hl (kl x) (kD x)) mwLH_linear cfLH (by assumption) w166 w167 w592 rfl rfl (ble rfl) (ble rfl) (ble rfl) (ble rfl) (ble rfl) dLH_row_2 ?_
  rintro v g2 I2 J2 ⟨rfl, rfl, hq⟩
  refine v_cVv C (c_LH_checkLinear (kl x) (kD x) g2 I2 J2) mwLH_checkLinear cfLH (by assumption) w595 ws16 w593 rfl rfl (ble rfl) (ble rfl) (ble rfl) (ble rfl) (ble rfl) dLH_row_5 ?_
  refine v_aload_n C 0 dLH_row_8 rfl rfl ?_
  refine v_callV C (hb I2 J2 hq (kl x) (kD x)) mwLH_buildRow cfLH (by assumption) w600 ws17 w598 rfl rfl (ble rfl) (ble rfl) (ble rfl) (ble rfl) (ble rfl) dLH_row_9 ?_
  rintro v g3 I3 J3 ⟨rfl, rfl, hq3⟩
  obtain ⟨len, l1, l2, l3⟩ := hq2 I3 J3 hq3
  refine v_aload_n C 0 dLH_row_12 rfl rfl ?_
  refine v_iload_n C 1 dLH_row_13 rfl rfl ?_
  refine v_cVv C (c_LH_checkPlace (kl x) (kD x) g3 I3 J3 a0 l2 l1 l3) mwLH_checkPlace cfLH (by assumption) w635 ws20 w633 rfl rfl (ble rfl) (ble rfl) (ble rfl) (ble rfl) (ble rfl) dLH_row_14 ?_
  refine v_aload_n C 0 dLH_row_17 rfl rfl ?_
  refine v_getr C cfLH (k := 6) (by assumption) rfl (by assumption) w117 dLH_row_18 ?_
  refine v_iload_n C 1 dLH_row_21 rfl rfl ?_
  refine v_ialdN C (q := (i)) (by assumption) (by first | rfl | (simp only [n16I, n2001I, nI_add, pk_mul, nI_1])) (by omega) (by decide) (rfl) dLH_row_22 ?_
  exact v_iret C M dLH_row_23 (ble rfl) (ble rfl) ⟨rfl, hq3, rfl⟩
theorem t_LH_row_l (l : Launch) (D : va_G) (g : GM) (I : MI) (J : MJ) {a : Nat} {z : Int32} {Q1 : MI → MJ → Prop} (i : Int32) (a0 : g.1 a = (5, 0)) (hz : z ≠ 1) (hl : LinC g I J a z Q1) : CtT l yLH_row bLH_row 2 (some .int) (rmA 7 173 1 6) D [.ref a, .int i] g I J (thrR g Q1 xS) := by
  refine CtT.of (by decide) (ble rfl) [some (.ref a), some (.int i)] rfl ?_
  intro x C M
  refine v_aload_n C 0 dLH_row_0 rfl rfl ?_
  refine v_aload_n C 0 dLH_row_1 rfl rfl ?_
  refine v_callV C (hl (kl x) (kD x)) mwLH_linear cfLH (by assumption) w166 w167 w592 rfl rfl (ble rfl) (ble rfl) (ble rfl) (ble rfl) (ble rfl) dLH_row_2 ?_
  rintro v g2 I2 J2 ⟨rfl, rfl, hq⟩
  exact v_outV C M (t_LH_checkLinear (kl x) (kD x) _ I2 J2 z hz) mwLH_checkLinear cfLH (by assumption) w595 ws16 w593 rfl rfl (ble rfl) (ble rfl) (ble rfl) (ble rfl) (ble rfl) dLH_row_5 (thrU.R hq)
theorem t_LH_row_i (l : Launch) (D : va_G) (g : GM) (I : MI) (J : MJ) {a : Nat} {Q1 Q2 : MI → MJ → Prop} (i : Int32) (a0 : g.1 a = (5, 0)) (hl : LinC g I J a 1 Q1) (hb : ∀ I2 J2, Q1 I2 J2 → BldC g I2 J2 a Q2) (hq2 : ∀ I2 J2, Q2 I2 J2 → i < 0 ∨ I2 a 9 ≤ i) : CtT l yLH_row bLH_row 2 (some .int) (rmA 7 173 1 6) D [.ref a, .int i] g I J (thrR g Q2 xB) := by
  refine CtT.of (by decide) (ble rfl) [some (.ref a), some (.int i)] rfl ?_
  intro x C M
  refine v_aload_n C 0 dLH_row_0 rfl rfl ?_
  refine v_aload_n C 0 dLH_row_1 rfl rfl ?_
  refine v_callV C (hl (kl x) (kD x)) mwLH_linear cfLH (by assumption) w166 w167 w592 rfl rfl (ble rfl) (ble rfl) (ble rfl) (ble rfl) (ble rfl) dLH_row_2 ?_
  rintro v g2 I2 J2 ⟨rfl, rfl, hq⟩
  refine v_cVv C (c_LH_checkLinear (kl x) (kD x) g2 I2 J2) mwLH_checkLinear cfLH (by assumption) w595 ws16 w593 rfl rfl (ble rfl) (ble rfl) (ble rfl) (ble rfl) (ble rfl) dLH_row_5 ?_
  refine v_aload_n C 0 dLH_row_8 rfl rfl ?_
  refine v_callV C (hb I2 J2 hq (kl x) (kD x)) mwLH_buildRow cfLH (by assumption) w600 ws17 w598 rfl rfl (ble rfl) (ble rfl) (ble rfl) (ble rfl) (ble rfl) dLH_row_9 ?_
  rintro v g3 I3 J3 ⟨rfl, rfl, hq3⟩
  refine v_aload_n C 0 dLH_row_12 rfl rfl ?_
  refine v_iload_n C 1 dLH_row_13 rfl rfl ?_
  exact v_outV C M (t_LH_checkPlace (kl x) (kD x) _ I3 J3 i a0 (hq2 I3 J3 hq3)) mwLH_checkPlace cfLH (by assumption) w635 ws20 w633 rfl rfl (ble rfl) (ble rfl) (ble rfl) (ble rfl) (ble rfl) dLH_row_14 (thrU.R hq3)
theorem c_LH_result (l : Launch) (D : va_G) (g : GM) (I : MI) (J : MJ) {a i : Nat} {Q1 Q2 : MI → MJ → Prop} (hA : LHAt g a) (hl : LinC g I J a 1 Q1) (hb : ∀ I2 J2, Q1 I2 J2 → BldC g I2 J2 a Q2) (hq2 : ∀ I2 J2, Q2 I2 J2 → ∃ len, len ≤ 48 ∧ I2 a 9 = nI len ∧ i < len) : Ct l yLH_result bLH_result 2 (some .int) (rmN 7 173) D [.ref a, .int (nI i)] g I J (fun v g2 I2 J2 => g2 = g ∧ Q2 I2 J2 ∧ v = some (.int (I2 (a + 16) i))) := by
  refine Ct.of (by decide) (ble rfl) [some (.ref a), some (.int (nI i))] rfl ?_
  intro x C M
  obtain ⟨a0, a1, a2, a3, a4, a5, hS, a15, a16, a17, r0, r1, r2, r3, r4, r5, r6, r7, r8⟩ := id hA
  refine v_aload_n C 0 dLH_result_0 rfl rfl ?_
  refine v_aload_n C 0 dLH_result_1 rfl rfl ?_
  refine v_callV C (hl (kl x) (kD x)) mwLH_linear cfLH (by assumption) w166 w167 w592 rfl rfl (ble rfl) (ble rfl) (ble rfl) (ble rfl) (ble rfl) dLH_result_2 ?_
  rintro v g2 I2 J2 ⟨rfl, rfl, hq⟩
  refine v_cVv C (c_LH_checkLinear (kl x) (kD x) g2 I2 J2) mwLH_checkLinear cfLH (by assumption) w595 ws16 w593 rfl rfl (ble rfl) (ble rfl) (ble rfl) (ble rfl) (ble rfl) dLH_result_5 ?_
  refine v_aload_n C 0 dLH_result_8 rfl rfl ?_
  refine v_callV C (hb I2 J2 hq (kl x) (kD x)) mwLH_buildRow cfLH (by assumption) w600 ws17 w598 rfl rfl (ble rfl) (ble rfl) (ble rfl) (ble rfl) (ble rfl) dLH_result_9 ?_
  rintro v g3 I3 J3 ⟨rfl, rfl, hq3⟩
  obtain ⟨len, l1, l2, l3⟩ := hq2 I3 J3 hq3
  refine v_aload_n C 0 dLH_result_12 rfl rfl ?_
  refine v_iload_n C 1 dLH_result_13 rfl rfl ?_
  refine v_cVv C (c_LH_checkPlace (kl x) (kD x) g3 I3 J3 a0 l2 l1 l3) mwLH_checkPlace cfLH (by assumption) w635 ws20 w633 rfl rfl (ble rfl) (ble rfl) (ble rfl) (ble rfl) (ble rfl) dLH_result_14 ?_
  refine v_aload_n C 0 dLH_result_17 rfl rfl ?_
  refine v_getr C cfLH (k := 7) (by assumption) rfl (by assumption) w118 dLH_result_18 ?_
  refine v_iload_n C 1 dLH_result_21 rfl rfl ?_
  refine v_ialdN C (q := (i)) (by assumption) (by first | rfl | (simp only [n16I, n2001I, nI_add, pk_mul, nI_1])) (by omega) (by decide) (rfl) dLH_result_22 ?_
  exact v_iret C M dLH_result_23 (ble rfl) (ble rfl) ⟨rfl, hq3, rfl⟩
theorem t_LH_result_l (l : Launch) (D : va_G) (g : GM) (I : MI) (J : MJ) {a : Nat} {z : Int32} {Q1 : MI → MJ → Prop} (i : Int32) (a0 : g.1 a = (5, 0)) (hz : z ≠ 1) (hl : LinC g I J a z Q1) : CtT l yLH_result bLH_result 2 (some .int) (rmA 7 173 1 6) D [.ref a, .int i] g I J (thrR g Q1 xS) := by
  refine CtT.of (by decide) (ble rfl) [some (.ref a), some (.int i)] rfl ?_
  intro x C M
  refine v_aload_n C 0 dLH_result_0 rfl rfl ?_
  refine v_aload_n C 0 dLH_result_1 rfl rfl ?_
  refine v_callV C (hl (kl x) (kD x)) mwLH_linear cfLH (by assumption) w166 w167 w592 rfl rfl (ble rfl) (ble rfl) (ble rfl) (ble rfl) (ble rfl) dLH_result_2 ?_
  rintro v g2 I2 J2 ⟨rfl, rfl, hq⟩
  exact v_outV C M (t_LH_checkLinear (kl x) (kD x) _ I2 J2 z hz) mwLH_checkLinear cfLH (by assumption) w595 ws16 w593 rfl rfl (ble rfl) (ble rfl) (ble rfl) (ble rfl) (ble rfl) dLH_result_5 (thrU.R hq)
theorem t_LH_result_i (l : Launch) (D : va_G) (g : GM) (I : MI) (J : MJ) {a : Nat} {Q1 Q2 : MI → MJ → Prop} (i : Int32) (a0 : g.1 a = (5, 0)) (hl : LinC g I J a 1 Q1) (hb : ∀ I2 J2, Q1 I2 J2 → BldC g I2 J2 a Q2) (hq2 : ∀ I2 J2, Q2 I2 J2 → i < 0 ∨ I2 a 9 ≤ i) : CtT l yLH_result bLH_result 2 (some .int) (rmA 7 173 1 6) D [.ref a, .int i] g I J (thrR g Q2 xB) := by
  refine CtT.of (by decide) (ble rfl) [some (.ref a), some (.int i)] rfl ?_
  intro x C M
  refine v_aload_n C 0 dLH_result_0 rfl rfl ?_
  refine v_aload_n C 0 dLH_result_1 rfl rfl ?_
  refine v_callV C (hl (kl x) (kD x)) mwLH_linear cfLH (by assumption) w166 w167 w592 rfl rfl (ble rfl) (ble rfl) (ble rfl) (ble rfl) (ble rfl) dLH_result_2 ?_
  rintro v g2 I2 J2 ⟨rfl, rfl, hq⟩
  refine v_cVv C (c_LH_checkLinear (kl x) (kD x) g2 I2 J2) mwLH_checkLinear cfLH (by assumption) w595 ws16 w593 rfl rfl (ble rfl) (ble rfl) (ble rfl) (ble rfl) (ble rfl) dLH_result_5 ?_
  refine v_aload_n C 0 dLH_result_8 rfl rfl ?_
  refine v_callV C (hb I2 J2 hq (kl x) (kD x)) mwLH_buildRow cfLH (by assumption) w600 ws17 w598 rfl rfl (ble rfl) (ble rfl) (ble rfl) (ble rfl) (ble rfl) dLH_result_9 ?_
  rintro v g3 I3 J3 ⟨rfl, rfl, hq3⟩
  refine v_aload_n C 0 dLH_result_12 rfl rfl ?_
  refine v_iload_n C 1 dLH_result_13 rfl rfl ?_
  exact v_outV C M (t_LH_checkPlace (kl x) (kD x) _ I3 J3 i a0 (hq2 I3 J3 hq3)) mwLH_checkPlace cfLH (by assumption) w635 ws20 w633 rfl rfl (ble rfl) (ble rfl) (ble rfl) (ble rfl) (ble rfl) dLH_result_14 (thrU.R hq3)
