set_option maxHeartbeats 4000000 in
theorem la_start {x : KX} {b L h : Nat} {xs : Nat → Int32} (C : Cx x bLa_law RLa 8 room_1) (H : LB x b L xs) (hE : LE x) (hL : L ≤ 3072) (hh : (ks x).heap.size = h) : V x (fun _ => (99, 0), fun _ _ => none, h) 0 0 (fun _ _ => 0) (fun _ _ => 0) 0 [some (.ref b), none, none, none, none, none, none, none] [] := by
  have hbh : b < h := by rw [← hh]; exact H.2.1
  refine v_new C cfLH hdLH w15 w16 w1 (ble rfl) (ble rfl) dLa_law_0 ?_
  refine v_dup C dLa_law_3 rfl ?_
  refine v_callI C (c_LH_init (kl x) (kD x) _ _ _ (a := h) (if_pos rfl) rfl) mwLH_init rfl w18 w17 rfl rfl (ble rfl) (ble rfl) (ble rfl) (ble rfl) (ble rfl) dLa_law_4 ?_
  rintro v ⟨sh1, r1, n1⟩ I1 J1 ⟨rfl, hA, hn, hz1, ⟨o1, o2, o3⟩, e1, e2, e3⟩
  have hz1 : n1 = h + 18 := hz1
  subst hz1
  refine v_astore_n C 1 dLa_law_7 rfl (ble rfl) rfl ?_
  refine v_new C cfMo hdMo w660 w661 w6 (ble rfl) (ble rfl) dLa_law_8 ?_
  refine v_dup C dLa_law_11 rfl ?_
  refine v_callI C (c_Mo_init (kl x) (kD x) _ _ _ (m := h + 18) (if_pos rfl) rfl) mwMo_init rfl w663 w662 rfl rfl (ble rfl) (ble rfl) (ble rfl) (ble rfl) (ble rfl) dLa_law_12 ?_
  rintro v ⟨sh2, r2, n2⟩ I2 J2 ⟨rfl, hM, hz2, ⟨p1, p2, p3⟩, f1, f2, f3, f4⟩
  have hz2 : n2 = h + 18 + 27 := hz2
  subst hz2
  refine v_astore_n C 2 dLa_law_15 rfl (ble rfl) rfl ?_
  refine v_iconst C 1 dLa_law_16 (by decide) ?_
  refine v_newl C 1 (by decide) (by decide) (by decide) (ble rfl) (ble rfl) dLa_law_17 ?_
  refine v_astore_n C 3 dLa_law_19 rfl (ble rfl) rfl ?_
  refine v_iconst C (nI (6 * 0)) dLa_law_20 (by decide) ?_
  refine v_istore C dLa_law_21 (ble rfl) rfl ?_
  have g3 : ∀ q, q ≠ h + 45 → (g_sh (sh2, r2, h + 18 + 27) (11, 1)).1 q = sh2 q ∧ (g_sh (sh2, r2, h + 18 + 27) (11, 1)).2.1 q = r2 q := fun q hq => ⟨if_neg hq, if_neg hq⟩
  have g2 : ∀ q, q < h + 18 → sh2 q = sh1 q ∧ r2 q = r1 q := fun q hq => by
    obtain ⟨y1, y2⟩ := p1 q hq
    have hne : q ≠ h + 18 := by omega
    have z1 : (g_sh (sh1, r1, h + 18) (6, 0)).1 q = sh1 q := if_neg hne
    have z2 : (g_sh (sh1, r1, h + 18) (6, 0)).2.1 q = r1 q := if_neg hne
    exact ⟨y1.trans z1, y2.trans z2⟩
  have i2 : ∀ q, q < h + 18 → I2 q = I1 q := fun q hq => (p2 q hq).trans (if_neg (by omega))
  have j2 : ∀ q, q < h + 18 → J2 q = J1 q := fun q hq => (p3 q hq).trans (if_neg (by omega))
  have i0 : ∀ q, I2 h q = 0 := fun q => by
    rw [i2 h (by omega), e1]
    show z_m (fun _ _ => (0 : Int32)) h 0 h q = 0
    unfold z_m
    rw [if_pos rfl]
  have m0 : ∀ q, q ≠ 30 → I2 (h + 18) q = 0 := fun q hq => by
    rw [f1 q hq]
    show z_m I1 (h + 18) 0 (h + 18) q = 0
    unfold z_m
    rw [if_pos rfl]
  have m30 : I2 (h + 18) 30 = 0 := f2
  have j0 : J2 h 14 = 0 := by
    rw [j2 h (by omega), e2]
    show z_m (fun _ _ => (0 : Int64)) h 0 h 14 = 0
    unfold z_m
    rw [if_pos rfl]
  have hb99 : sh2 b = (99, 0) := by
    rw [(g2 b (by omega)).1]
    have z1 : (g_sh ((fun _ => (99, 0), fun _ _ => none, h) : GM) (5, 0)).1 b = (99, 0) := if_neg (show b ≠ h by omega)
    exact (o1 b hbh).1.trans z1
  refine V.widen (la_loop (a := h) (len := 0) (c0 := 50) (s0 := 60000) (scr := I2 b) C H hE hL (by decide) (by decide) 512 0 _ I2 _ rfl (Nat.zero_le _) ?_) (by decide) (by decide)
  refine ⟨hbh, rfl, (g3 b (by omega)).1.trans hb99, 0, 0, 0, 0, fun _ => 0, fun _ => 0, fun _ => 0, fun _ => 0, fun _ => 0, fun _ => 0, fun _ => 0, ⟨⟨?_, ?_, if_pos rfl, Nat.le_refl _, by decide, fun k hk => by omega, fun k j _ hj => by omega, fun k _ hk => ?_⟩, Nat.le_refl _, HF.zero _ _ _ _ _ _, ⟨m0 1 (by decide), m0 5 (by decide), m0 15 (by decide), fun q _ => ⟨f4 q, (by show 0 < 48; decide)⟩, fun k hk => by omega, fun y hy => by omega⟩, ⟨fun k hk => by omega, Or.inl m30⟩, ⟨i0 11, i0 12, i0 13, fun y hy => ?_, fun y hy => by omega, fun p hp => ⟨?_, Or.inl (f3 p hp)⟩⟩, fun k hk => by omega, Or.inl (i0 10)⟩, Nat.le_refl _⟩
  · exact hA.reg (fun q q1 q2 => (g3 q (by omega)).1.trans (g2 q (by omega)).1) (fun q q1 q2 _ => (g3 q (by omega)).2.trans (g2 q (by omega)).2)
  · exact hM.reg (fun q q1 q2 => (g3 q (by omega)).1) (g3 _ (by omega)).2
  · rw [(g3 (h + 1) (by omega)).2, (g2 (h + 1) (by omega)).2]
    exact hn k
  · have e : z_m J2 (h + 18 + 27) 0 h 14 = 0 := by
      unfold z_m
      rw [if_neg (by omega)]
      exact j0
    show gb (z_m J2 (h + 18 + 27) 0 h 14) y = true ↔ _
    rw [e, gb_0]
    constructor
    · intro w; cases w
    · rintro ⟨w, -⟩; omega
  · rw [i2 (h + 5) (by omega), e3 p hp, f3 p hp]
