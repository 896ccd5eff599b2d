/-! the reference's row: how many objects, operations; owner, place; what is before what; steps, possibilities, hopes, ends of an object -/
abbrev GD : Type := Nat × Nat × (Nat → Nat) × (Nat → Nat) × (Nat → Nat → Bool) × (Nat → SF) × (Nat → XS) × (Nat → Nat → Int32) × (Nat → Nat → Bool)
abbrev gno (d : GD) : Nat := d.1
abbrev gnp (d : GD) : Nat := d.2.1
abbrev gow (d : GD) : Nat → Nat := d.2.2.1
abbrev gpl (d : GD) : Nat → Nat := d.2.2.2.1
abbrev gbf (d : GD) : Nat → Nat → Bool := d.2.2.2.2.1
abbrev gS (d : GD) : Nat → SF := d.2.2.2.2.2.1
abbrev gX (d : GD) : Nat → XS := d.2.2.2.2.2.2.1
abbrev ghp (d : GD) : Nat → Nat → Int32 := d.2.2.2.2.2.2.2.1
abbrev gee (d : GD) : Nat → Nat → Bool := d.2.2.2.2.2.2.2.2
def gdn (d : GD) (rc : Nat → Nat) (x : Nat) : Bool := decide ((jis ((gX d (gow d x)).2.1 (rc (gow d x))) (nI (gpl d x)) &&& 1) = 1)
abbrev gfr (d : GD) (rc : Nat → Nat) (n : Nat) : Prop := ∀ x, x < gnp d → ¬ (x ≠ n ∧ gbf d x n = true ∧ gdn d rc x = false)
def gcnd (d : GD) (rc : Nat → Nat) (n : Nat) : Option (Nat × Int32) :=
  if gfr d rc n then
    (match gS d (gow d n) ((gX d (gow d n)).2.1 (rc (gow d n))) ((gX d (gow d n)).2.2.1 (rc (gow d n))) (gpl d n) with
    | none => none
    | some c => if ghp d (gow d n) (ix (lk (gX d (gow d n)).2.1 (gX d (gow d n)).2.2.1 (keyB ((gX d (gow d n)).2.1 (rc (gow d n))) (gpl d n) c.2.1) c.1 (gX d (gow d n)).1)) = 0 then none
      else some (ix (lk (gX d (gow d n)).2.1 (gX d (gow d n)).2.2.1 (keyB ((gX d (gow d n)).2.1 (rc (gow d n))) (gpl d n) c.2.1) c.1 (gX d (gow d n)).1), c.2.2))
  else none
def gend (d : GD) (rc : Nat → Nat) (k : Nat) : Int32 := if gee d k (rc k) = true then 1 else 0
def grow (d : GD) : Nat → (Nat → Nat) → BS → Option BS
  | 0, _, _ => none
  | q + 1, rc, b => if allA (gend d rc) (gno d) 0 ≠ 0 then some b else (match fstC (gcnd d rc) (gnp d) 0 with
    | none => none
    | some (i, t, res) => if b.1 < 48 then grow d q (upF rc (gow d i) t) (b.1 + 1, upF b.2.1 b.1 (nI i), upF b.2.2 b.1 res) else none)
/-- the memory that the row is made of -/
def GW (m : Nat) (L cnt : Nat → Nat) (d : GD) (I : MI) (J : MJ) : Prop := I m 1 = nI (gno d) ∧ gno d ≤ 6 ∧ I m 5 = nI (gnp d) ∧ gnp d ≤ 48 ∧ LsOK I m L ∧
  (∀ x, x < gnp d → I (m + 5) x = nI (gow d x) ∧ gow d x < gno d ∧ gpl d x < cnt (gow d x) ∧ L (16 * gow d x + gpl d x) = x ∧ ∀ j, j < gpl d x → L (16 * gow d x + j) ≠ x) ∧
  (∀ x y, x < gnp d → y < gnp d → gbf d x y = decide (bfr I m (I m 15) 0 x y)) ∧
  ∀ k, k < gno d → I (m + 2) k = nI (cnt k) ∧ cnt k ≤ 16 ∧ gS d k = rstp (rE I m L k) (fun j => L (16 * k + j)) (I (m + 1) k) (cnt k) (I m 15) 0 ∧ brun (gS d k) (cnt k) = some (gX d k) ∧ (∀ i, i < (gX d k).1 → MapOK (I (m + 1) k) ((gX d k).2.2.1 i)) ∧ XR I J m (2001 * k) (gX d k) ∧ I (m + 18) k = nI (gX d k).1 ∧ (∀ i, i < (gX d k).1 → I (m + 15) (2001 * k + i) = ghp d k i ∧ (ghp d k i = 0 ∨ ghp d k i = 1)) ∧ ∀ p, gee d k p = eB (rE I m L k) (cnt k) (I m 15) (gX d k) p
def gsame (m : Nat) (I : MI) (J : MJ) (I2 : MI) (J2 : MJ) : Prop := (∀ b, b ≠ m → b ≠ m + 24 → b ≠ m + 25 → b ≠ m + 26 → I2 b = I b) ∧ (∀ q, q ≠ 28 → q ≠ 29 → q ≠ 31 → I2 m q = I m q) ∧ ∀ b, b ≠ m → J2 b = J b
theorem gsame.rf {m : Nat} {I : MI} {J : MJ} : gsame m I J I J := ⟨fun _ _ _ _ _ => rfl, fun _ _ _ _ => rfl, fun _ _ => rfl⟩
theorem gsame.tr {m : Nat} {I I2 I3 : MI} {J J2 J3 : MJ} (h : gsame m I J I2 J2) (h2 : gsame m I2 J2 I3 J3) : gsame m I J I3 J3 := ⟨fun b a c e f => (h2.1 b a c e f).trans (h.1 b a c e f), fun q a c e => (h2.2.1 q a c e).trans (h.2.1 q a c e), fun b a => (h2.2.2 b a).trans (h.2.2 b a)⟩
theorem offM.g {m : Nat} {I I2 : MI} {J J2 : MJ} (h : offM m I J I2 J2) : gsame m I J I2 J2 := ⟨fun b a _ _ _ => h.1 b a, fun q a c _ => h.2.1 q a c, h.2.2⟩
theorem GW.same {m : Nat} {L cnt : Nat → Nat} {d : GD} {I I2 : MI} {J J2 : MJ} (h : GW m L cnt d I J) (hs : gsame m I J I2 J2) : GW m L cnt d I2 J2 := by
  obtain ⟨h1, h2, h3, h4, h5, h6, h7, h8⟩ := h
  have e : ∀ c, 0 < c → c < 24 → I2 (m + c) = I (m + c) := fun c c0 c1 => hs.1 _ (by omega) (by omega) (by omega) (by omega)
  have e15 : I2 m 15 = I m 15 := hs.2.1 15 (by decide) (by decide) (by decide)
  have eR : ∀ k, eqR (rE I m L k) (rE I2 m L k) := fun k => eqR_mem (fun f f1 f2 => e f (by omega) (by omega))
  refine ⟨by rw [hs.2.1 1 (by decide) (by decide) (by decide)]; exact h1, h2, by rw [hs.2.1 5 (by decide) (by decide) (by decide)]; exact h3, h4, fun q hq => by rw [e 3 (by decide) (by decide)]; exact h5 q hq, fun x hx => by rw [e 5 (by decide) (by decide)]; exact h6 x hx, fun x y hx hy => ?_, fun k hk => ?_⟩
  · rw [h7 x y hx hy, e15]
    unfold bfr
    rw [e 11 (by decide) (by decide), e 10 (by decide) (by decide), e 4 (by decide) (by decide)]
  · obtain ⟨a1, a2, a3, a4, a5, a6, a7, a8, a9⟩ := h8 k hk
    refine ⟨by rw [e 2 (by decide) (by decide)]; exact a1, a2, by rw [e 1 (by decide) (by decide), e15, rstp_congr (eR k)]; exact a3, a4, by rw [e 1 (by decide) (by decide)]; exact a5, fun i hi => by rw [e 13 (by decide) (by decide), hs.2.2 (m + 14) (by omega)]; exact a6 i hi, by rw [e 18 (by decide) (by decide)]; exact a7, fun i hi => by rw [e 15 (by decide) (by decide)]; exact a8 i hi, fun p => by rw [e15, eB_congr (eR k)]; exact a9 p⟩
def rcO (m : Nat) (d : GD) (rc : Nat → Nat) (I : MI) : Prop := ∀ k, k < gno d → I (m + 26) k = nI (2001 * k + rc k) ∧ rc k < (gX d k).1
theorem c_Mo_isDone (l : Launch) (D : va_G) (g : GM) (I : MI) (J : MJ) {m n : Nat} {L cnt : Nat → Nat} {d : GD} {rc : Nat → Nat} (hM : MoAt g m) (hG : GW m L cnt d I J) (hr : rcO m d rc I) (hn : n < gnp d) : Ct l yMo_isDone bMo_isDone 4 (some .boolean) (rmN 0 0) D [.ref m, .int (nI n)] g I J (PF (some (.int (if gdn d rc n = true then 1 else 0))) g I J) := by
  refine Ct.of (by decide) (ble rfl) [some (.ref m), some (.int (nI n)), none, none] rfl ?_
  intro x C M
  obtain ⟨m0, m1, m2, m3, m4, m5, m6, m7, m8, m9, m10, m11, m12, m13, m14, m15, m16, m17, m18, m19, m20, m21, m22, m23, m24, m25, m26, f2, f3, f4, f6, f7, f8, f9, f10, f11, f12, f13, f14, f16, f17, f18, f19, f20, f21, f22, f23, f24, f25, f26, f32, f33, f34⟩ := id hM
  obtain ⟨h1, h2, h3, h4, h5, h6, h7, h8⟩ := hG
  obtain ⟨o1, o2, o3, o4, o5⟩ := h6 n hn
  obtain ⟨a1, a2, a3, a4, a5, a6, a7, a8, a9⟩ := h8 _ o2
  have hXn : (gX d (gow d n)).1 ≤ 2000 := brun_le (by rw [a3]; exact rstp_SOK _ _ _ _ _ _) a2 a4
  have hrc := hr _ o2
  have hl : ∀ j, j < 16 → I (m + 3) (16 * gow d n + j) = nI (L (16 * gow d n + j)) ∧ L (16 * gow d n + j) < 48 := fun j hj => h5 _ (by omega)
  refine v_aload_n C 0 dMo_isDone_0 rfl rfl ?_
  refine v_getr C cfMo (k := 7) (by assumption) rfl (by assumption) w681 dMo_isDone_1 ?_
  refine v_iload_n C 1 dMo_isDone_4 rfl rfl ?_
  refine v_ialdN C (q := (n)) (by assumption) (by first | rfl | (simp only [n16I, n2001I, nI_add, pk_mul, nI_1])) (by omega) (by decide) (o1) dMo_isDone_5 ?_
  refine v_istore_n C 2 dMo_isDone_6 rfl (ble rfl) rfl ?_
  refine v_iconst C 0 dMo_isDone_7 (by decide) ?_
  refine v_istore_n C 3 dMo_isDone_8 rfl (ble rfl) rfl ?_
  have loop : ∀ (q j : Nat), j + q = gpl d n → V x g 0 0 I J 9 [some (.ref m), some (.int (nI n)), some (.int (nI (gow d n))), some (.int (nI j))] [] := by
    intro q
    induction q with
    | zero =>
      intro j hj
      have hj : j = gpl d n := by omega
      refine v_aload_n C 0 dMo_isDone_9 rfl rfl ?_
      refine v_getr C cfMo (k := 4) (by assumption) rfl (by assumption) w678 dMo_isDone_10 ?_
      refine v_bipush C 16 dMo_isDone_13 (by decide) ?_
      refine v_iload_n C 2 dMo_isDone_15 rfl rfl ?_
      refine v_imul C dMo_isDone_16 ?_
      refine v_iload_n C 3 dMo_isDone_17 rfl rfl ?_
      refine v_iadd C dMo_isDone_18 ?_
      refine v_ialdN C (q := (16 * gow d n + j)) (by assumption) (by first | rfl | (simp only [n16I, n2001I, nI_add, pk_mul, nI_1])) (by omega) (by decide) ((show _ = nI n by rw [(hl j (by omega)).1, hj, o4])) dMo_isDone_19 ?_
      refine v_iload_n C 1 dMo_isDone_20 rfl rfl ?_
      refine v_icmp_eq C 30 dMo_isDone_21 (by decide) (fun _ => ?_) (fun h => absurd rfl h)
      refine v_aload_n C 0 dMo_isDone_30 rfl rfl ?_
      refine v_getr C cfMo (k := 16) (by assumption) rfl (by assumption) w690 dMo_isDone_31 ?_
      refine v_aload_n C 0 dMo_isDone_34 rfl rfl ?_
      refine v_getr C cfMo (k := 34) (by assumption) rfl (by assumption) w708 dMo_isDone_35 ?_
      refine v_iload_n C 2 dMo_isDone_38 rfl rfl ?_
      refine v_ialdN C (q := (gow d n)) (by assumption) (by first | rfl | (simp only [n16I, n2001I, nI_add, pk_mul, nI_1])) (by omega) (by decide) (hrc.1) dMo_isDone_39 ?_
      refine v_ialdN C (q := (2001 * gow d n + rc (gow d n))) (by assumption) (by first | rfl | (simp only [n16I, n2001I, nI_add, pk_mul, nI_1])) (by omega) (by decide) ((a6 _ hrc.2).1) dMo_isDone_40 ?_
      refine v_iload_n C 3 dMo_isDone_41 rfl rfl ?_
      refine v_ishr C dMo_isDone_42 ?_
      refine v_iconst C 1 dMo_isDone_43 (by decide) ?_
      refine v_iand C dMo_isDone_44 ?_
      refine v_iconst C 1 dMo_isDone_45 (by decide) ?_
      refine v_icmp_ne C 53 dMo_isDone_46 (by decide) (fun c46 => ?_) (fun c46 => ?_)
      · refine v_iconst C 0 dMo_isDone_53 (by decide) ?_
        exact v_zret C M (by first | exact Or.inl rfl | exact Or.inr rfl | assumption) dMo_isDone_54 (ble rfl) (ble rfl) (pf_i (by rw [if_neg (fun h => c46 (by have := of_decide_eq_true h; rw [← hj] at this; exact this))]) rfl rfl)
      · refine v_iconst C 1 dMo_isDone_49 (by decide) ?_
        refine v_goto C 54 dMo_isDone_50 (by decide) ?_
        exact v_zret C M (by first | exact Or.inl rfl | exact Or.inr rfl | assumption) dMo_isDone_54 (ble rfl) (ble rfl) (pf_i (by rw [if_pos (show gdn d rc n = true from decide_eq_true (by rw [← hj]; exact c46))]) rfl rfl)
    | succ q ih =>
      intro j hj
      refine v_aload_n C 0 dMo_isDone_9 rfl rfl ?_
      refine v_getr C cfMo (k := 4) (by assumption) rfl (by assumption) w678 dMo_isDone_10 ?_
      refine v_bipush C 16 dMo_isDone_13 (by decide) ?_
      refine v_iload_n C 2 dMo_isDone_15 rfl rfl ?_
      refine v_imul C dMo_isDone_16 ?_
      refine v_iload_n C 3 dMo_isDone_17 rfl rfl ?_
      refine v_iadd C dMo_isDone_18 ?_
      refine v_ialdN C (q := (16 * gow d n + j)) (by assumption) (by first | rfl | (simp only [n16I, n2001I, nI_add, pk_mul, nI_1])) (by omega) (by decide) ((hl j (by omega)).1) dMo_isDone_19 ?_
      refine v_iload_n C 1 dMo_isDone_20 rfl rfl ?_
      refine v_icmp_eq C 30 dMo_isDone_21 (by decide) (fun h => absurd h (fun e => o5 j (by omega) ((nI_eq (by have := (hl j (by omega)).2; omega) (by omega)).mp e))) (fun _ => ?_)
      refine v_iinc C (nI (j + 1)) dMo_isDone_24 rfl (nI_1 j) (ble rfl) rfl ?_
      refine v_goto C 9 dMo_isDone_27 (by decide) ?_
      exact ih (j + 1) (by omega)
  exact loop (gpl d n) 0 (by omega)
def gonQ (g : GM) (I : MI) (J : MJ) (m : Nat) (d : GD) (rc : Nat → Nat) (len n : Nat) : Option Value → GM → MI → MJ → Prop := fun v g2 I2 J2 => g2 = g ∧ gsame m I J I2 J2 ∧ (gcnd d rc n = none ∧ v = some (.int 0) ∧ I2 m 31 = I m 31 ∧ I2 (m + 24) = I (m + 24) ∧ I2 (m + 25) = I (m + 25) ∧ I2 (m + 26) = I (m + 26) ∨ ∃ t res, gcnd d rc n = some (t, res) ∧ v = some (.int 1) ∧ t < (gX d (gow d n)).1 ∧ I2 m 31 = nI (len + 1) ∧ I2 (m + 24) = upF (I (m + 24)) len (nI n) ∧ I2 (m + 25) = upF (I (m + 25)) len res ∧ I2 (m + 26) = upF (I (m + 26)) (gow d n) (nI (2001 * gow d n + t)))
set_option maxHeartbeats 4000000 in
theorem c_Mo_goesOn (l : Launch) (D : va_G) (g : GM) (I : MI) (J : MJ) {m n len : Nat} {L cnt : Nat → Nat} {d : GD} {rc : Nat → Nat} (hM : MoAt g m) (hG : GW m L cnt d I J) (hr : rcO m d rc I) (hn : n < gnp d) (hlen : I m 31 = nI len) (hlen2 : len < 48) : Ct l yMo_goesOn bMo_goesOn 6 (some .boolean) (rmN 4 104) D [.ref m, .int (nI n)] g I J (gonQ g I J m d rc len n) := by
  refine Ct.of (by decide) (ble rfl) [some (.ref m), some (.int (nI n)), none, none, none, none] rfl ?_
  intro x C M
  obtain ⟨m0, m1, m2, m3, m4, m5, m6, m7, m8, m9, m10, m11, m12, m13, m14, m15, m16, m17, m18, m19, m20, m21, m22, m23, m24, m25, m26, f2, f3, f4, f6, f7, f8, f9, f10, f11, f12, f13, f14, f16, f17, f18, f19, f20, f21, f22, f23, f24, f25, f26, f32, f33, f34⟩ := id hM
  obtain ⟨h1, h2, h3, h4, h5, h6, h7, h8⟩ := id hG
  obtain ⟨o1, o2, o3, o4, o5⟩ := h6 n hn
  obtain ⟨a1, a2, a3, a4, a5, a6, a7, a8, a9⟩ := h8 _ o2
  have hS : SOK (gS d (gow d n)) := by rw [a3]; exact rstp_SOK _ _ _ _ _ _
  obtain ⟨hF, hClo, hpos, -, -⟩ := brun_fin hS a2 a4
  have hXn := hF.1.1
  have hrc := hr _ o2
  have how : gow d n < 6 := by omega
  have hl : ∀ j, j < 16 → I (m + 3) (16 * gow d n + j) = nI (L (16 * gow d n + j)) ∧ L (16 * gow d n + j) < 48 := fun j hj => h5 _ (by omega)
  refine v_aload_n C 0 dMo_goesOn_0 rfl rfl ?_
  refine v_getr C cfMo (k := 7) (by assumption) rfl (by assumption) w681 dMo_goesOn_1 ?_
  refine v_iload_n C 1 dMo_goesOn_4 rfl rfl ?_
  refine v_ialdN C (q := (n)) (by assumption) (by first | rfl | (simp only [n16I, n2001I, nI_add, pk_mul, nI_1])) (by omega) (by decide) (o1) dMo_goesOn_5 ?_
  refine v_istore_n C 2 dMo_goesOn_6 rfl (ble rfl) rfl ?_
  refine v_iconst C 0 dMo_goesOn_7 (by decide) ?_
  refine v_istore_n C 3 dMo_goesOn_8 rfl (ble rfl) rfl ?_
  have no : ¬ gfr d rc n → gonQ g I J m d rc len n (some (.int 0)) g I J := fun h => ⟨rfl, gsame.rf, Or.inl ⟨by unfold gcnd; rw [if_neg h], rfl, rfl, rfl, rfl, rfl⟩⟩
  have place : ∀ (q j : Nat), j + q = gpl d n → V x g 0 0 I J 9 [some (.ref m), some (.int (nI n)), some (.int (nI (gow d n))), some (.int (nI j)), none, none] [] := by
    intro q
    induction q with
    | zero =>
      intro j hj
      have hj : j = gpl d n := by omega
      subst hj
      refine v_aload_n C 0 dMo_goesOn_9 rfl rfl ?_
      refine v_getr C cfMo (k := 4) (by assumption) rfl (by assumption) w678 dMo_goesOn_10 ?_
      refine v_bipush C 16 dMo_goesOn_13 (by decide) ?_
      refine v_iload_n C 2 dMo_goesOn_15 rfl rfl ?_
      refine v_imul C dMo_goesOn_16 ?_
      refine v_iload_n C 3 dMo_goesOn_17 rfl rfl ?_
      refine v_iadd C dMo_goesOn_18 ?_
      refine v_ialdN C (q := (16 * gow d n + gpl d n)) (by assumption) (by first | rfl | (simp only [n16I, n2001I, nI_add, pk_mul, nI_1])) (by omega) (by decide) ((show _ = nI n by rw [(hl _ (by omega)).1, o4])) dMo_goesOn_19 ?_
      refine v_iload_n C 1 dMo_goesOn_20 rfl rfl ?_
      refine v_icmp_eq C 30 dMo_goesOn_21 (by decide) (fun _ => ?_) (fun h => absurd rfl h)
      refine v_iconst C 0 dMo_goesOn_30 (by decide) ?_
      refine v_istore C dMo_goesOn_31 (ble rfl) rfl ?_
      have ops : ∀ (q y : Nat), y + q = gnp d → (∀ z, z < y → ¬ (z ≠ n ∧ gbf d z n = true ∧ gdn d rc z = false)) → V x g 0 0 I J 33 [some (.ref m), some (.int (nI n)), some (.int (nI (gow d n))), some (.int (nI (gpl d n))), some (.int (nI y)), none] [] := by
        intro q
        induction q with
        | zero =>
          intro y hy hz
          refine v_iload C dMo_goesOn_33 rfl ?_
          refine v_aload_n C 0 dMo_goesOn_35 rfl rfl ?_
          refine v_getiN C cfMo (k := 5) (by assumption) rfl w679 dMo_goesOn_36 (h3) ?_
          refine v_icmp_ge C 80 dMo_goesOn_39 (by decide) (fun _ => ?_) (fun h => absurd (nI_le (by omega) (by omega)) h)
          have hfr : gfr d rc n := fun z hz2 => hz z (by omega)
          obtain ⟨km9, ksz, kg⟩ := hF.1.2 (rc (gow d n)) hrc.2
          have e13 := (a6 _ hrc.2).1
          have e14 := (a6 _ hrc.2).2
          refine v_aload_n C 0 dMo_goesOn_80 rfl rfl ?_
          refine v_iload_n C 2 dMo_goesOn_81 rfl rfl ?_
          refine v_iload_n C 3 dMo_goesOn_82 rfl rfl ?_
          refine v_aload_n C 0 dMo_goesOn_83 rfl rfl ?_
          refine v_getr C cfMo (k := 34) (by assumption) rfl (by assumption) w708 dMo_goesOn_84 ?_
          refine v_iload_n C 2 dMo_goesOn_87 rfl rfl ?_
          refine v_ialdN C (q := (gow d n)) (by assumption) (by first | rfl | (simp only [n16I, n2001I, nI_add, pk_mul, nI_1])) (by omega) (by decide) (hrc.1) dMo_goesOn_88 ?_
          refine v_aload_n C 0 dMo_goesOn_89 rfl rfl ?_
          refine v_geti C cfMo (k := 15) (by assumption) rfl w689 dMo_goesOn_90 ?_
          refine v_iconst C 0 dMo_goesOn_93 (by decide) ?_
          refine v_callV C (c_Mo_can (kl x) (kD x) g I J (sz := ksz) (cnt := cnt (gow d n)) (L := L) (I m 15) 0 hM h5 how (by omega) (by omega) a1 a2 (by rw [e13]; exact jis_sz kg.1) kg.1.2.2 (by rw [e14]; exact a5 _ hrc.2)) mwMo_can cfMo (by assumption) w830 ws27 w828 rfl rfl (ble rfl) (ble rfl) (ble rfl) (ble rfl) (ble rfl) dMo_goesOn_94 ?_
          rintro v g2 I2 J2 ⟨rfl, o, h⟩
          rw [← a3, e13, e14] at h
          rcases h with ⟨c1, rfl⟩ | ⟨c, c1, rfl, c2, c3, c4⟩
          · refine v_if_ne C 102 dMo_goesOn_97 (by decide) (fun h => absurd rfl h) (fun _ => ?_)
            refine v_iconst C 0 dMo_goesOn_100 (by decide) ?_
            exact v_zret C M (by first | exact Or.inl rfl | exact Or.inr rfl | assumption) dMo_goesOn_101 (ble rfl) (ble rfl) ⟨rfl, o.g, Or.inl ⟨by unfold gcnd; rw [if_pos hfr, c1], rfl, o.2.1 31 (by decide) (by decide), o.1 _ (by omega), o.1 _ (by omega), o.1 _ (by omega)⟩⟩
          · refine v_if_ne C 102 dMo_goesOn_97 (by decide) (fun _ => ?_) (fun h => absurd h (by decide))
            have g26 : I2 (m + 26) (gow d n) = nI (2001 * gow d n + rc (gow d n)) := by rw [o.1 _ (by omega)]; exact hrc.1
            have g13 : ∀ i, i < (gX d (gow d n)).1 → I2 (m + 13) (2001 * gow d n + i) = (gX d (gow d n)).2.1 i ∧ J2 (m + 14) (2001 * gow d n + i) = (gX d (gow d n)).2.2.1 i := fun i hi => by rw [o.1 _ (by omega), o.2.2 _ (by omega)]; exact a6 i hi
            have g18 : I2 (m + 18) (gow d n) = nI (gX d (gow d n)).1 := by rw [o.1 _ (by omega)]; exact a7
            obtain ⟨m2, sz2, kg2, ksz2, kpk⟩ := hS.pk (by omega) kg c1
            obtain ⟨r, hrr⟩ : ∃ r, rc (gow d n) + 1 + r = (gX d (gow d n)).1 := ⟨(gX d (gow d n)).1 - (rc (gow d n) + 1), by omega⟩
            obtain ⟨t, t1, t2, t3, t4, -, -⟩ := srch_has hF hrc.2 kpk hrr (hClo _ hrc.2 hrc.2 _ o3 c c1)
            have eit : ix (nI t) = t := nI_clamp (by omega)
            refine v_aload_n C 0 dMo_goesOn_102 rfl rfl ?_
            refine v_getr C cfMo (k := 16) (by assumption) rfl (by assumption) w690 dMo_goesOn_103 ?_
            refine v_aload_n C 0 dMo_goesOn_106 rfl rfl ?_
            refine v_getr C cfMo (k := 34) (by assumption) rfl (by assumption) w708 dMo_goesOn_107 ?_
            refine v_iload_n C 2 dMo_goesOn_110 rfl rfl ?_
            refine v_ialdN C (q := (gow d n)) (by assumption) (by first | rfl | (simp only [n16I, n2001I, nI_add, pk_mul, nI_1])) (by omega) (by decide) (g26) dMo_goesOn_111 ?_
            refine v_ialdN C (q := (2001 * gow d n + rc (gow d n))) (by assumption) (by first | rfl | (simp only [n16I, n2001I, nI_add, pk_mul, nI_1])) (by omega) (by decide) ((g13 _ hrc.2).1) dMo_goesOn_112 ?_
            refine v_ldc C w875 dMo_goesOn_113 ?_
            refine v_iand C dMo_goesOn_115 ?_
            refine v_iconst C 1 dMo_goesOn_116 (by decide) ?_
            refine v_iload_n C 3 dMo_goesOn_117 rfl rfl ?_
            refine v_ishl C dMo_goesOn_118 ?_
            refine v_ior C dMo_goesOn_119 ?_
            refine v_aload_n C 0 dMo_goesOn_120 rfl rfl ?_
            refine v_getiN C cfMo (k := 28) (by assumption) rfl w702 dMo_goesOn_121 (c3) ?_
            refine v_bipush C 16 dMo_goesOn_124 (by decide) ?_
            refine v_ishl C dMo_goesOn_126 ?_
            refine v_ior C dMo_goesOn_127 ?_
            refine v_istore C dMo_goesOn_128 (ble rfl) rfl ?_
            refine v_aload_n C 0 dMo_goesOn_130 rfl rfl ?_
            refine v_aload_n C 0 dMo_goesOn_131 rfl rfl ?_
            refine v_getr C cfMo (k := 34) (by assumption) rfl (by assumption) w708 dMo_goesOn_132 ?_
            refine v_iload_n C 2 dMo_goesOn_135 rfl rfl ?_
            refine v_ialdN C (q := (gow d n)) (by assumption) (by first | rfl | (simp only [n16I, n2001I, nI_add, pk_mul, nI_1])) (by omega) (by decide) (g26) dMo_goesOn_136 ?_
            refine v_iconst C 1 dMo_goesOn_137 (by decide) ?_
            refine v_iaddN C dMo_goesOn_138 ((nI_1 _)) ?_
            refine v_sipush C 2001 dMo_goesOn_139 (by decide) ?_
            refine v_iload_n C 2 dMo_goesOn_142 rfl rfl ?_
            refine v_imulN C dMo_goesOn_143 ((pk_mul 2001 _)) ?_
            refine v_aload_n C 0 dMo_goesOn_144 rfl rfl ?_
            refine v_getr C cfMo (k := 21) (by assumption) rfl (by assumption) w695 dMo_goesOn_145 ?_
            refine v_iload_n C 2 dMo_goesOn_148 rfl rfl ?_
            refine v_ialdN C (q := (gow d n)) (by assumption) (by first | rfl | (simp only [n16I, n2001I, nI_add, pk_mul, nI_1])) (by omega) (by decide) (g18) dMo_goesOn_149 ?_
            refine v_iaddN C dMo_goesOn_150 ((show _ = nI (2001 * gow d n + rc (gow d n) + 1 + r) by rw [nI_add]; congr 1; omega)) ?_
            refine v_iload C dMo_goesOn_151 rfl ?_
            refine v_cVi C (c_Mo_search (kl x) (kD x) _ I2 J2 (fr := 2001 * gow d n + rc (gow d n) + 1) (q := r) (keyB ((gX d (gow d n)).2.1 (rc (gow d n))) (gpl d n) c.2.1) hM (by omega)) mwMo_search cfMo (by assumption) w878 ws37 w876 rfl rfl (ble rfl) (ble rfl) (ble rfl) (ble rfl) (ble rfl) dMo_goesOn_153 ?_
            have esr : srch (I2 (m + 13)) (J2 (m + 14)) (keyB ((gX d (gow d n)).2.1 (rc (gow d n))) (gpl d n) c.2.1) (J2 m 27) r (2001 * gow d n + rc (gow d n) + 1) = 2001 * gow d n + t := by
              rw [c2, ← t4]
              exact srch_base (b := 2001 * gow d n) r (rc (gow d n) + 1) (fun j h1 h2 => g13 j (by omega))
            rw [esr]
            have ehp : I2 (m + 15) (2001 * gow d n + t) = ghp d (gow d n) t := by rw [o.1 _ (by omega)]; exact (a8 t t2).1
            have eg : gcnd d rc n = if ghp d (gow d n) t = 0 then none else some (t, c.2.2) := by
              unfold gcnd
              rw [if_pos hfr, c1]
              show (if ghp d (gow d n) (ix (lk _ _ _ _ _)) = 0 then none else some (ix (lk _ _ _ _ _), c.2.2)) = _
              rw [t3, eit]
            refine v_istore C dMo_goesOn_156 (ble rfl) rfl ?_
            refine v_aload_n C 0 dMo_goesOn_158 rfl rfl ?_
            refine v_getr C cfMo (k := 18) (by assumption) rfl (by assumption) w692 dMo_goesOn_159 ?_
            refine v_iload C dMo_goesOn_162 rfl ?_
            refine v_zaldN C (q := (2001 * gow d n + t)) (by assumption) (by first | rfl | (simp only [n16I, n2001I, nI_add, pk_mul, nI_1])) (by omega) (by decide) (ehp) dMo_goesOn_164 ?_
            by_cases hz0 : ghp d (gow d n) t = 0
            · rw [hz0]
              refine v_if_ne C 170 dMo_goesOn_165 (by decide) (fun h => absurd rfl h) (fun _ => ?_)
              refine v_iconst C 0 dMo_goesOn_168 (by decide) ?_
              exact v_zret C M (by first | exact Or.inl rfl | exact Or.inr rfl | assumption) dMo_goesOn_169 (ble rfl) (ble rfl) ⟨rfl, o.g, Or.inl ⟨by rw [eg, if_pos hz0], rfl, o.2.1 31 (by decide) (by decide), o.1 _ (by omega), o.1 _ (by omega), o.1 _ (by omega)⟩⟩
            · refine v_if_ne C 170 dMo_goesOn_165 (by decide) (fun _ => ?_) (fun h => absurd h hz0)
              have e31 : I2 m 31 = nI len := (o.2.1 31 (by decide) (by decide)).trans hlen
              refine v_aload_n C 0 dMo_goesOn_170 rfl rfl ?_
              refine v_getr C cfMo (k := 32) (by assumption) rfl (by assumption) w706 dMo_goesOn_171 ?_
              refine v_aload_n C 0 dMo_goesOn_174 rfl rfl ?_
              refine v_getiN C cfMo (k := 31) (by assumption) rfl w705 dMo_goesOn_175 (e31) ?_
              refine v_iload_n C 1 dMo_goesOn_178 rfl rfl ?_
              refine v_iastN C (q := (len)) (by assumption) (by first | rfl | (simp only [n16I, n2001I, nI_add, pk_mul, nI_1])) (by omega) (by decide) dMo_goesOn_179 ?_
              refine v_aload_n C 0 dMo_goesOn_180 rfl rfl ?_
              refine v_getr C cfMo (k := 33) (by assumption) rfl (by assumption) w707 dMo_goesOn_181 ?_
              refine v_aload_n C 0 dMo_goesOn_184 rfl rfl ?_
              refine v_getiN C cfMo (k := 31) (by assumption) rfl w705 dMo_goesOn_185 (((s2_a (by omega)).trans e31)) ?_
              refine v_aload_n C 0 dMo_goesOn_188 rfl rfl ?_
              refine v_getiN C cfMo (k := 29) (by assumption) rfl w703 dMo_goesOn_189 (((s2_a (by omega)).trans c4)) ?_
              refine v_iastN C (q := (len)) (by assumption) (by first | rfl | (simp only [n16I, n2001I, nI_add, pk_mul, nI_1])) (by omega) (by decide) dMo_goesOn_192 ?_
              refine v_aload_n C 0 dMo_goesOn_193 rfl rfl ?_
              refine v_dup C dMo_goesOn_194 rfl ?_
              refine v_getiN C cfMo (k := 31) (by assumption) rfl w705 dMo_goesOn_195 ((((s2_a (by omega)).trans (s2_a (by omega))).trans e31)) ?_
              refine v_iconst C 1 dMo_goesOn_198 (by decide) ?_
              refine v_iaddN C dMo_goesOn_199 ((nI_1 len)) ?_
              refine v_puti C cfMo (k := 31) (by assumption) rfl w705 rfl rfl rfl dMo_goesOn_200 ?_
              refine v_aload_n C 0 dMo_goesOn_203 rfl rfl ?_
              refine v_getr C cfMo (k := 34) (by assumption) rfl (by assumption) w708 dMo_goesOn_204 ?_
              refine v_iload_n C 2 dMo_goesOn_207 rfl rfl ?_
              refine v_iload C dMo_goesOn_208 rfl ?_
              refine v_iastN C (q := (gow d n)) (by assumption) (by first | rfl | (simp only [n16I, n2001I, nI_add, pk_mul, nI_1])) (by omega) (by decide) dMo_goesOn_210 ?_
              refine v_iconst C 1 dMo_goesOn_211 (by decide) ?_
              refine v_zret C M (Or.inr rfl) dMo_goesOn_212 (ble rfl) (ble rfl) ⟨rfl, o.g.tr ⟨fun b b1 b2 b3 b4 => ?_, fun q q1 q2 q3 => ?_, fun _ _ => rfl⟩, Or.inr ⟨t, c.2.2, by rw [eg, if_neg hz0], rfl, t2, ?_, ?_, ?_, ?_⟩⟩
              · rw [s2_off b4, s2_off b1, s2_off b3, s2_off b2]
              · rw [s2_a (by omega), s2_k q3, s2_a (by omega), s2_a (by omega)]
              · rw [s2_a (by omega), s2_self]
              · rw [s2_off (by omega), s2_off (by omega), s2_off (by omega), s2_row, o.1 (m + 24) (by omega)]
                rfl
              · rw [s2_off (by omega), s2_off (by omega), s2_row, s2_off (show m + 25 ≠ m + 24 by omega), o.1 (m + 25) (by omega)]
                rfl
              · rw [s2_row, s2_off (show m + 26 ≠ m by omega), s2_off (show m + 26 ≠ m + 25 by omega), s2_off (show m + 26 ≠ m + 24 by omega), o.1 (m + 26) (by omega)]
                rfl
        | succ q ih =>
          intro y hy hz
          have hy2 : y < gnp d := by omega
          have next : ¬ (y ≠ n ∧ gbf d y n = true ∧ gdn d rc y = false) → V x g 0 0 I J 74 [some (.ref m), some (.int (nI n)), some (.int (nI (gow d n))), some (.int (nI (gpl d n))), some (.int (nI y)), none] [] := by
            intro hno
            refine v_iinc C (nI (y + 1)) dMo_goesOn_74 rfl (nI_1 y) (ble rfl) rfl ?_
            refine v_goto C 33 dMo_goesOn_77 (by decide) ?_
            refine ih (y + 1) (by omega) (fun z hz2 => ?_)
            rcases Nat.lt_succ_iff_lt_or_eq.mp hz2 with h | h
            · exact hz z h
            · rw [h]; exact hno
          refine v_iload C dMo_goesOn_33 rfl ?_
          refine v_aload_n C 0 dMo_goesOn_35 rfl rfl ?_
          refine v_getiN C cfMo (k := 5) (by assumption) rfl w679 dMo_goesOn_36 (h3) ?_
          refine v_icmp_ge C 80 dMo_goesOn_39 (by decide) (fun h => absurd h (nI_ge hy2 (by omega))) (fun _ => ?_)
          refine v_iload C dMo_goesOn_42 rfl ?_
          refine v_iload_n C 1 dMo_goesOn_44 rfl rfl ?_
          refine v_icmp_eq C 74 dMo_goesOn_45 (by decide) (fun c45 => ?_) (fun c45 => ?_)
          · exact next (fun h => h.1 ((nI_eq (by omega) (by omega)).mp c45))
          · refine v_aload_n C 0 dMo_goesOn_48 rfl rfl ?_
            refine v_iload C dMo_goesOn_49 rfl ?_
            refine v_iload_n C 1 dMo_goesOn_51 rfl rfl ?_
            refine v_aload_n C 0 dMo_goesOn_52 rfl rfl ?_
            refine v_geti C cfMo (k := 15) (by assumption) rfl w689 dMo_goesOn_53 ?_
            refine v_iconst C 0 dMo_goesOn_56 (by decide) ?_
            refine v_cVi C (c_Mo_isBefore (kl x) (kD x) g I J (I m 15) 0 hM (a := y) (b := n) (by omega) (by omega)) mwMo_isBefore cfMo (by assumption) w834 ws28 w832 rfl rfl (ble rfl) (ble rfl) (ble rfl) (ble rfl) (ble rfl) dMo_goesOn_57 ?_
            have eb := h7 y n hy2 hn
            by_cases hb : bfr I m (I m 15) 0 y n
            · rw [if_pos hb]
              refine v_if_eq C 74 dMo_goesOn_60 (by decide) (fun h => absurd h (by decide)) (fun _ => ?_)
              refine v_aload_n C 0 dMo_goesOn_63 rfl rfl ?_
              refine v_iload C dMo_goesOn_64 rfl ?_
              refine v_cVi C (c_Mo_isDone (kl x) (kD x) g I J hM hG hr hy2) mwMo_isDone cfMo (by assumption) w943 ws46 w941 rfl rfl (ble rfl) (ble rfl) (ble rfl) (ble rfl) (ble rfl) dMo_goesOn_66 ?_
              by_cases hd : gdn d rc y = true
              · rw [if_pos hd]
                refine v_if_ne C 74 dMo_goesOn_69 (by decide) (fun _ => ?_) (fun h => absurd h (by decide))
                exact next (fun h => by rw [hd] at h; exact absurd h.2.2 (by decide))
              · rw [if_neg hd]
                refine v_if_ne C 74 dMo_goesOn_69 (by decide) (fun h => absurd rfl h) (fun _ => ?_)
                refine v_iconst C 0 dMo_goesOn_72 (by decide) ?_
                exact v_zret C M (by first | exact Or.inl rfl | exact Or.inr rfl | assumption) dMo_goesOn_73 (ble rfl) (ble rfl) (no (fun h => h y hy2 ⟨fun e => c45 (by rw [e]), by rw [eb]; exact decide_eq_true hb, by simpa using hd⟩))
            · rw [if_neg hb]
              refine v_if_eq C 74 dMo_goesOn_60 (by decide) (fun _ => ?_) (fun h => absurd rfl h)
              exact next (fun h => hb (by have := h.2.1; rw [eb] at this; exact of_decide_eq_true this))
      exact ops (gnp d) 0 (by omega) (fun z hz => absurd hz (Nat.not_lt_zero z))
    | succ q ih =>
      intro j hj
      refine v_aload_n C 0 dMo_goesOn_9 rfl rfl ?_
      refine v_getr C cfMo (k := 4) (by assumption) rfl (by assumption) w678 dMo_goesOn_10 ?_
      refine v_bipush C 16 dMo_goesOn_13 (by decide) ?_
      refine v_iload_n C 2 dMo_goesOn_15 rfl rfl ?_
      refine v_imul C dMo_goesOn_16 ?_
      refine v_iload_n C 3 dMo_goesOn_17 rfl rfl ?_
      refine v_iadd C dMo_goesOn_18 ?_
      refine v_ialdN C (q := (16 * gow d n + j)) (by assumption) (by first | rfl | (simp only [n16I, n2001I, nI_add, pk_mul, nI_1])) (by omega) (by decide) ((hl j (by omega)).1) dMo_goesOn_19 ?_
      refine v_iload_n C 1 dMo_goesOn_20 rfl rfl ?_
      refine v_icmp_eq C 30 dMo_goesOn_21 (by decide) (fun h => absurd h (fun e => o5 j (by omega) ((nI_eq (by have := (hl j (by omega)).2; omega) (by omega)).mp e))) (fun _ => ?_)
      refine v_iinc C (nI (j + 1)) dMo_goesOn_24 rfl (nI_1 j) (ble rfl) rfl ?_
      refine v_goto C 9 dMo_goesOn_27 (by decide) ?_
      exact ih (j + 1) (by omega)
  exact place (gpl d n) 0 (by omega)
theorem c_Mo_isWhole (l : Launch) (D : va_G) (g : GM) (I : MI) (J : MJ) {m : Nat} {L cnt : Nat → Nat} {d : GD} {rc : Nat → Nat} (hM : MoAt g m) (hG : GW m L cnt d I J) (hr : rcO m d rc I) : Ct l yMo_isWhole bMo_isWhole 2 (some .boolean) (rmN 2 46) D [.ref m] g I J (PF (some (.int (allA (gend d rc) (gno d) 0))) g I J) := by
  refine Ct.of (by decide) (ble rfl) [some (.ref m), none] rfl ?_
  intro x C M
  obtain ⟨m0, m1, m2, m3, m4, m5, m6, m7, m8, m9, m10, m11, m12, m13, m14, m15, m16, m17, m18, m19, m20, m21, m22, m23, m24, m25, m26, f2, f3, f4, f6, f7, f8, f9, f10, f11, f12, f13, f14, f16, f17, f18, f19, f20, f21, f22, f23, f24, f25, f26, f32, f33, f34⟩ := id hM
  obtain ⟨h1, h2, h3, h4, h5, h6, h7, h8⟩ := id hG
  refine v_iconst C 0 dMo_isWhole_0 (by decide) ?_
  refine v_istore_n C 1 dMo_isWhole_1 rfl (ble rfl) rfl ?_
  have loop : ∀ (q k : Nat), k + q = gno d → allA (gend d rc) q k = allA (gend d rc) (gno d) 0 → V x g 0 0 I J 2 [some (.ref m), some (.int (nI k))] [] := by
    intro q
    induction q with
    | zero =>
      intro k hk he
      refine v_iload_n C 1 dMo_isWhole_2 rfl rfl ?_
      refine v_aload_n C 0 dMo_isWhole_3 rfl rfl ?_
      refine v_getiN C cfMo (k := 1) (by assumption) rfl w675 dMo_isWhole_4 (h1) ?_
      refine v_icmp_ge C 36 dMo_isWhole_7 (by decide) (fun _ => ?_) (fun h => absurd (nI_le (by omega) (by omega)) h)
      refine v_iconst C 1 dMo_isWhole_36 (by decide) ?_
      exact v_zret C M (by first | exact Or.inl rfl | exact Or.inr rfl | assumption) dMo_isWhole_37 (ble rfl) (ble rfl) (pf_i (by rw [← he]; rfl) rfl rfl)
    | succ q ih =>
      intro k hk he
      have hkn : k < gno d := by omega
      obtain ⟨a1, a2, a3, a4, a5, a6, a7, a8, a9⟩ := h8 k hkn
      have hXn : (gX d k).1 ≤ 2000 := brun_le (by rw [a3]; exact rstp_SOK _ _ _ _ _ _) a2 a4
      have hrc := hr k hkn
      refine v_iload_n C 1 dMo_isWhole_2 rfl rfl ?_
      refine v_aload_n C 0 dMo_isWhole_3 rfl rfl ?_
      refine v_getiN C cfMo (k := 1) (by assumption) rfl w675 dMo_isWhole_4 (h1) ?_
      refine v_icmp_ge C 36 dMo_isWhole_7 (by decide) (fun h => absurd h (nI_ge hkn (by omega))) (fun _ => ?_)
      refine v_aload_n C 0 dMo_isWhole_10 rfl rfl ?_
      refine v_iload_n C 1 dMo_isWhole_11 rfl rfl ?_
      refine v_aload_n C 0 dMo_isWhole_12 rfl rfl ?_
      refine v_getr C cfMo (k := 34) (by assumption) rfl (by assumption) w708 dMo_isWhole_13 ?_
      refine v_iload_n C 1 dMo_isWhole_16 rfl rfl ?_
      refine v_ialdN C (q := (k)) (by assumption) (by first | rfl | (simp only [n16I, n2001I, nI_add, pk_mul, nI_1])) (by omega) (by decide) (hrc.1) dMo_isWhole_17 ?_
      refine v_aload_n C 0 dMo_isWhole_18 rfl rfl ?_
      refine v_geti C cfMo (k := 15) (by assumption) rfl w689 dMo_isWhole_19 ?_
      refine v_cVi C (c_Mo_isEnd (kl x) (kD x) g I J (cnt := cnt k) (L := L) (I m 15) hM h5 (by omega) (by omega) a1 a2) mwMo_isEnd cfMo (by assumption) w886 ws39 w884 rfl rfl (ble rfl) (ble rfl) (ble rfl) (ble rfl) (ble rfl) dMo_isWhole_22 ?_
      have ee : (if rEnd (rE I m L k) (cnt k) (I m 15) (I (m + 13) (2001 * k + rc k)) then (1 : Int32) else 0) = gend d rc k := by
        unfold gend
        rw [(a6 _ hrc.2).1, a9 (rc k)]
        by_cases hq : rEnd (rE I m L k) (cnt k) (I m 15) ((gX d k).2.1 (rc k))
        · rw [if_pos hq, if_pos (decide_eq_true hq)]
        · rw [if_neg hq, if_neg (fun h => hq (of_decide_eq_true h))]
      rw [ee]
      by_cases hz : gend d rc k = 0
      · rw [hz]
        refine v_if_ne C 30 dMo_isWhole_25 (by decide) (fun h => absurd rfl h) (fun _ => ?_)
        refine v_iconst C 0 dMo_isWhole_28 (by decide) ?_
        exact v_zret C M (by first | exact Or.inl rfl | exact Or.inr rfl | assumption) dMo_isWhole_29 (ble rfl) (ble rfl) (pf_i (by rw [← he]; simp only [allA, if_pos hz]) rfl rfl)
      · refine v_if_ne C 30 dMo_isWhole_25 (by decide) (fun _ => ?_) (fun h => absurd h hz)
        refine v_iinc C (nI (k + 1)) dMo_isWhole_30 rfl (nI_1 k) (ble rfl) rfl ?_
        refine v_goto C 2 dMo_isWhole_33 (by decide) ?_
        refine ih (k + 1) (by omega) ?_
        rw [← he]
        simp only [allA, if_neg hz]
  exact loop (gno d) 0 (by omega) rfl
