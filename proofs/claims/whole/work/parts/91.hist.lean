/-! THE HISTORY: what was called when, what came back when; an object's operations at a time e -/
def OH (E R : Nat → Nat → Int32) (N : Nat → Nat) (kind ret : Int32) (n cnt e : Nat) (c b : Nat → Nat) : Prop :=
  n ≤ cnt ∧ cnt ≤ 16 ∧ (∀ i, i < n → OpR E R kind i) ∧
  (∃ rt, ret = nI rt ∧ rt < 65536 ∧ ∀ i, i < 16 → (rt.testBit i = true ↔ i < n ∧ 0 < b i ∧ b i ≤ e)) ∧ (∀ i, i < n → 0 < b i → b i ≤ e → E i 5 = R i 9) ∧
  (∀ i, i < n → c i ≤ e) ∧ (∀ i, n ≤ i → i < cnt → e < c i) ∧ (∀ i, i < cnt → 0 < b i → c i < b i) ∧
  (∀ i, i < n → ∃ er, E i 6 = nI er ∧ er < 65536 ∧ ∀ j, j < 16 → (er.testBit j = true ↔ j < n ∧ 0 < b j ∧ b j < c i)) ∧
  (∀ i, i < n → ∃ ow, E i 7 = nI ow ∧ ow < 65536 ∧ ∀ j, j < 16 → (ow.testBit j = true ↔ j < i ∧ R j 4 = R i 4)) ∧
  ∀ i j, i < cnt → j < cnt → (N i < N j ↔ i < j)
theorem OH.od {E R : Nat → Nat → Int32} {N : Nat → Nat} {kind ret : Int32} {n cnt e : Nat} {c b : Nat → Nat} (h : OH E R N kind ret n cnt e c b) (hR : ∀ i, i < cnt → R i 10 = nI (c i) ∧ R i 11 = nI (b i) ∧ c i < 2 ^ 30 ∧ b i < 2 ^ 30 ∧ N i < 2 ^ 30) (he : e < 2 ^ 30) : OD E R N kind ret n cnt (nI e) := by
  obtain ⟨h1, h2, h3, ⟨rt, r1, r2, r3⟩, h5, h6, h7, h8, h9, h10, h11⟩ := h
  have e0 : (0 : Int32) = nI 0 := rfl
  have hb : ∀ i, i < cnt → (bk (R i 11) (nI e) ↔ 0 < b i ∧ b i ≤ e) := fun i hi => by
    obtain ⟨a1, a2, a3, a4, a5⟩ := hR i hi
    unfold bk
    rw [a2, e0, nI_ltI (by decide) (by omega), nI_leI (by omega) (by omega)]
  refine ⟨h1, h2, h3, ⟨rt, r1, r2, fun i hi => ?_⟩, fun i hi q => ?_, fun i hi => ?_, fun i i1 i2 => ?_, fun i hi q => ?_, fun i hi => ?_, h10, fun i j hi hj => ?_⟩
  · rw [r3 i hi]
    constructor
    · rintro ⟨a, b⟩
      exact ⟨a, (hb i (by omega)).mpr b⟩
    · rintro ⟨a, b⟩
      exact ⟨a, (hb i (by omega)).mp b⟩
  · have := (hb i (by omega)).mp q
    exact h5 i hi this.1 this.2
  · obtain ⟨a1, a2, a3, a4, a5⟩ := hR i (by omega)
    rw [a1, nI_leI (by omega) (by omega)]
    exact h6 i hi
  · obtain ⟨a1, a2, a3, a4, a5⟩ := hR i i2
    rw [a1, nI_ltI (by omega) (by omega)]
    exact h7 i i1 i2
  · obtain ⟨a1, a2, a3, a4, a5⟩ := hR i hi
    rw [a1, a2, nI_ltI (by omega) (by omega)]
    rw [a2, e0, nI_ltI (by decide) (by omega)] at q
    exact h8 i hi q
  · obtain ⟨er, x1, x2, x3⟩ := h9 i hi
    refine ⟨er, x1, x2, fun j hj => ?_⟩
    rw [x3 j hj]
    constructor
    · rintro ⟨a, p, q⟩
      obtain ⟨a1, a2, a3, a4, a5⟩ := hR j (by omega)
      obtain ⟨b1, b2, b3, b4, b5⟩ := hR i (by omega)
      rw [a2, b1, e0, nI_ltI (by decide) (by omega), nI_ltI (by omega) (by omega)]
      exact ⟨a, p, q⟩
    · rintro ⟨a, p, q⟩
      obtain ⟨a1, a2, a3, a4, a5⟩ := hR j (by omega)
      obtain ⟨b1, b2, b3, b4, b5⟩ := hR i (by omega)
      rw [a2, e0, nI_ltI (by decide) (by omega)] at p
      rw [a2, b1, nI_ltI (by omega) (by omega)] at q
      exact ⟨a, p, q⟩
  · obtain ⟨a1, a2, a3, a4, a5⟩ := hR i hi
    obtain ⟨b1, b2, b3, b4, b5⟩ := hR j hj
    rw [nI_ltI (by omega) (by omega)]
    exact h11 i j hi hj
theorem OpR.congr {E R E' R' : Nat → Nat → Int32} {kind : Int32} {i : Nat} (h : OpR E R kind i) (hE : ∀ j k, j ≤ i → k ≠ 5 → E' j k = E j k) (hR : ∀ f, 4 ≤ f → f ≤ 8 → R' i f = R i f) : OpR E' R' kind i := by
  obtain ⟨a1, a2, a3, a4, a5, a6⟩ := h
  refine ⟨by rw [hR 4 (by decide) (by decide), hE i 0 (Nat.le_refl _) (by decide)]; exact a1, by rw [hR 6 (by decide) (by decide), hE i 1 (Nat.le_refl _) (by decide)]; exact a2, by rw [hR 7 (by decide) (by decide), hE i 2 (Nat.le_refl _) (by decide)]; exact a3, by rw [hR 8 (by decide) (by decide), hE i 3 (Nat.le_refl _) (by decide)]; exact a4, ?_, by rw [hE i 1 (Nat.le_refl _) (by decide)]; exact a6⟩
  rw [hE i 4 (Nat.le_refl _) (by decide), hE i 3 (Nat.le_refl _) (by decide), hE i 2 (Nat.le_refl _) (by decide), a5]
  congr 1
  exact (nmF_congr i 0 (fun j _ hj => by
    show (if kind = 5 then E' j 3 else E' j 2) = if kind = 5 then E j 3 else E j 2
    rw [hE j 3 (by omega) (by decide), hE j 2 (by omega) (by decide)])).symm
/-- later events change nothing of what there was at e -/
theorem OH.ext {E R E' R' : Nat → Nat → Int32} {N N' : Nat → Nat} {kind ret : Int32} {n cnt cnt' e : Nat} {c b c' b' : Nat → Nat} (h : OH E R N kind ret n cnt e c b) (hE : ∀ i k, i < n → k ≠ 5 → E' i k = E i k) (hE5 : ∀ i, i < n → 0 < b i → b i ≤ e → E' i 5 = E i 5) (hR : ∀ i f, i < n → 4 ≤ f → f ≤ 8 → R' i f = R i f) (hR9 : ∀ i, i < n → 0 < b i → b i ≤ e → R' i 9 = R i 9) (hc : cnt ≤ cnt') (hc2 : cnt' ≤ 16) (h1 : ∀ i, i < cnt → c' i = c i) (h2 : ∀ i, i < cnt → b' i = b i ∨ b i = 0 ∧ e < b' i ∧ ∀ z, z < cnt → c z < b' i) (h3 : ∀ i, cnt ≤ i → i < cnt' → e < c' i ∧ b' i = 0) (hN : ∀ i j, i < cnt' → j < cnt' → (N' i < N' j ↔ i < j)) : OH E' R' N' kind ret n cnt' e c' b' := by
  obtain ⟨g1, g2, g3, ⟨rt, r1, r2, r3⟩, g5, g6, g7, g8, g9, g10, g11⟩ := h
  have hbe : ∀ i, i < n → (0 < b' i ∧ b' i ≤ e ↔ 0 < b i ∧ b i ≤ e) := fun i hi => by
    rcases h2 i (by omega) with q | ⟨q1, q2, q3⟩ <;> omega
  refine ⟨by omega, hc2, fun i hi => (g3 i hi).congr (fun j k hj hk => hE j k (by omega) hk) (fun f a b => hR i f hi a b), ⟨rt, r1, r2, fun i hi => ?_⟩, fun i hi p q => ?_, fun i hi => ?_, fun i i1 i2 => ?_, fun i hi p => ?_, fun i hi => ?_, fun i hi => ?_, hN⟩
  · rw [r3 i hi]
    constructor
    · rintro ⟨a, p⟩
      exact ⟨a, (hbe i a).mpr p⟩
    · rintro ⟨a, p⟩
      exact ⟨a, (hbe i a).mp p⟩
  · have z := (hbe i hi).mp ⟨p, q⟩
    rw [hE5 i hi z.1 z.2, hR9 i hi z.1 z.2]
    exact g5 i hi z.1 z.2
  · rw [h1 i (by omega)]
    exact g6 i hi
  · rcases Nat.lt_or_ge i cnt with q | q
    · rw [h1 i q]
      exact g7 i i1 q
    · exact (h3 i q i2).1
  · rcases Nat.lt_or_ge i cnt with q | q
    · rw [h1 i q]
      rcases h2 i q with z | ⟨z1, z2, z3⟩
      · rw [z] at p ⊢
        exact g8 i q p
      · exact z3 i q
    · have := (h3 i q hi).2
      omega
  · obtain ⟨er, x1, x2, x3⟩ := g9 i hi
    refine ⟨er, by rw [hE i 6 hi (by decide)]; exact x1, x2, fun j hj => ?_⟩
    rw [x3 j hj, h1 i (by omega)]
    constructor
    · rintro ⟨a, p, q⟩
      rcases h2 j (by omega) with z | ⟨z1, z2, z3⟩
      · rw [z]; exact ⟨a, p, q⟩
      · omega
    · rintro ⟨a, p, q⟩
      rcases h2 j (by omega) with z | ⟨z1, z2, z3⟩
      · rw [z] at p q; exact ⟨a, p, q⟩
      · have := z3 i (by omega)
        omega
  · obtain ⟨ow, x1, x2, x3⟩ := g10 i hi
    refine ⟨ow, by rw [hE i 7 hi (by decide)]; exact x1, x2, fun j hj => ?_⟩
    rw [x3 j hj]
    constructor
    · rintro ⟨a, p⟩
      exact ⟨a, by rw [hR j 4 (by omega) (by decide) (by decide), hR i 4 hi (by decide) (by decide)]; exact p⟩
    · rintro ⟨a, p⟩
      rw [hR j 4 (by omega) (by decide) (by decide), hR i 4 hi (by decide) (by decide)] at p
      exact ⟨a, p⟩
/-- time goes on -/
theorem OH.time {E R E' R' : Nat → Nat → Int32} {N N' : Nat → Nat} {kind ret : Int32} {n e e' : Nat} {c b c' b' : Nat → Nat} (h : OH E R N kind ret n n e c b) (hb : ∀ i, i < n → b i ≤ e) (he : e ≤ e') (hE : ∀ i k, i < n → E' i k = E i k) (hR : ∀ i f, i < n → 4 ≤ f → f ≤ 9 → R' i f = R i f) (h1 : ∀ i, i < n → c' i = c i ∧ b' i = b i) (hN : ∀ i, i < n → N' i = N i) : OH E' R' N' kind ret n n e' c' b' := by
  obtain ⟨g1, g2, g3, ⟨rt, r1, r2, r3⟩, g5, g6, g7, g8, g9, g10, g11⟩ := h
  refine ⟨by omega, g2, fun i hi => (g3 i hi).congr (fun j k hj _ => hE j k (by omega)) (fun f a b => hR i f hi a (by omega)), ⟨rt, r1, r2, fun i hi => ?_⟩, fun i hi p q => ?_, fun i hi => ?_, fun i i1 i2 => by omega, fun i hi p => ?_, fun i hi => ?_, fun i hi => ?_, fun i j hi hj => by rw [hN i hi, hN j hj]; exact g11 i j hi hj⟩
  · rw [r3 i hi]
    constructor
    · rintro ⟨a, p⟩
      rw [(h1 i a).2]
      exact ⟨a, p.1, by omega⟩
    · rintro ⟨a, p⟩
      rw [(h1 i a).2] at p
      exact ⟨a, p.1, hb i a⟩
  · rw [(h1 i hi).2] at p
    rw [hE i 5 hi, hR i 9 hi (by decide) (by decide)]
    exact g5 i hi p (hb i hi)
  · rw [(h1 i hi).1]
    have := g6 i hi
    omega
  · rw [(h1 i hi).2] at p
    rw [(h1 i hi).1, (h1 i hi).2]
    exact g8 i hi p
  · obtain ⟨er, x1, x2, x3⟩ := g9 i hi
    refine ⟨er, by rw [hE i 6 hi]; exact x1, x2, fun j hj => ?_⟩
    rw [x3 j hj, (h1 i hi).1]
    constructor
    · rintro ⟨a, p⟩
      rw [(h1 j a).2]
      exact ⟨a, p⟩
    · rintro ⟨a, p⟩
      rw [(h1 j a).2] at p
      exact ⟨a, p⟩
  · obtain ⟨ow, x1, x2, x3⟩ := g10 i hi
    refine ⟨ow, by rw [hE i 7 hi]; exact x1, x2, fun j hj => ?_⟩
    rw [x3 j hj]
    constructor
    · rintro ⟨a, p⟩
      exact ⟨a, by rw [hR j 4 (by omega) (by decide) (by decide), hR i 4 hi (by decide) (by decide)]; exact p⟩
    · rintro ⟨a, p⟩
      rw [hR j 4 (by omega) (by decide) (by decide), hR i 4 hi (by decide) (by decide)] at p
      exact ⟨a, p⟩
theorem jish1 {p : Nat} (hp : p < 16) : jish 1 (nI p) = nI (2 ^ p) := by
  have h1 : 2 ^ p < 2 ^ 16 := Nat.pow_lt_pow_right (by decide) hp
  have e1 : jish 1 (nI p) = nI (1 * 2 ^ p) := pk_shlN (n := 1) (nI p &&& 31) p (s_l p (by omega)) (by omega)
  rw [e1, Nat.one_mul]
theorem tb_or {m p x : Nat} : (m ||| 2 ^ p).testBit x = true ↔ m.testBit x = true ∨ x = p := by
  rw [Nat.testBit_or, Nat.testBit_two_pow]
  simp only [Bool.or_eq_true, decide_eq_true_eq]
  constructor
  · rintro (q | q)
    · exact Or.inl q
    · exact Or.inr q.symm
  · rintro (q | q)
    · exact Or.inl q
    · exact Or.inr q.symm
theorem plsOf_spec {P : Nat → Int32} {pr : Int32} : ∀ n : Nat, n ≤ 16 → ∃ w, plsOf P pr n = nI w ∧ w < 65536 ∧ ∀ j, w.testBit j = true ↔ j < n ∧ P j = pr
  | 0, _ => ⟨0, rfl, by decide, fun j => by rw [Nat.zero_testBit]; simp⟩
  | n + 1, hn => by
    obtain ⟨w, w1, w2, w3⟩ := plsOf_spec (P := P) (pr := pr) n (by omega)
    simp only [plsOf]
    by_cases c : P n = pr
    · rw [if_pos c, w1, jish1 (by omega), nx_or]
      refine ⟨_, rfl, or_lt16 w2 (by omega), fun j => ?_⟩
      rw [tb_or, w3 j]
      constructor
      · rintro (⟨a, b⟩ | a)
        · exact ⟨by omega, b⟩
        · rw [a]; exact ⟨by omega, c⟩
      · rintro ⟨a, b⟩
        rcases Nat.lt_succ_iff_lt_or_eq.mp a with q | q
        · exact Or.inl ⟨q, b⟩
        · exact Or.inr q
    · rw [if_neg c]
      refine ⟨w, w1, w2, fun j => ?_⟩
      rw [w3 j]
      constructor
      · rintro ⟨a, b⟩
        exact ⟨by omega, b⟩
      · rintro ⟨a, b⟩
        rcases Nat.lt_succ_iff_lt_or_eq.mp a with q | q
        · exact ⟨q, b⟩
        · rw [q] at b; exact absurd b c
/-- a call -/
theorem OH.add {E R E' R' : Nat → Nat → Int32} {N N' : Nat → Nat} {kind ret : Int32} {n e e' : Nat} {c b c' b' : Nat → Nat} (h : OH E R N kind ret n n e c b) (hn : n < 16) (hb : ∀ i, i < n → b i ≤ e) (he : e < e') (hE : ∀ i k, i < n → E' i k = E i k) (hR : ∀ i f, i < n → 4 ≤ f → f ≤ 9 → R' i f = R i f) (h1 : ∀ i, i < n → c' i = c i ∧ b' i = b i) (hcn : c' n = e') (hbn : b' n = 0) (hO : OpR E' R' kind n) (h6 : E' n 6 = ret) (h7 : E' n 7 = plsOf (fun i => E i 0) (E' n 0) n) (hN : ∀ i j, i < n + 1 → j < n + 1 → (N' i < N' j ↔ i < j)) : OH E' R' N' kind ret (n + 1) (n + 1) e' c' b' := by
  obtain ⟨g1, g2, g3, ⟨rt, r1, r2, r3⟩, g5, g6, g7, g8, g9, g10, g11⟩ := h
  have key : ∀ i, i < n + 1 → i < n ∨ i = n := fun i hi => by omega
  refine ⟨by omega, by omega, fun i hi => ?_, ⟨rt, r1, r2, fun i hi => ?_⟩, fun i hi p q => ?_, fun i hi => ?_, fun i i1 i2 => by omega, fun i hi p => ?_, fun i hi => ?_, fun i hi => ?_, hN⟩
  · rcases key i hi with q | q
    · exact (g3 i q).congr (fun j k hj _ => hE j k (by omega)) (fun f a b => hR i f q a (by omega))
    · rw [q]; exact hO
  · rw [r3 i hi]
    constructor
    · rintro ⟨a, p⟩
      rw [(h1 i a).2]
      exact ⟨by omega, p.1, by omega⟩
    · rintro ⟨a, p⟩
      rcases key i a with q | q
      · rw [(h1 i q).2] at p
        exact ⟨q, p.1, hb i q⟩
      · rw [q, hbn] at p
        omega
  · rcases key i hi with z | z
    · rw [(h1 i z).2] at p
      rw [hE i 5 z, hR i 9 z (by decide) (by decide)]
      exact g5 i z p (hb i z)
    · rw [z, hbn] at p
      omega
  · rcases key i hi with z | z
    · rw [(h1 i z).1]
      have := g6 i z
      omega
    · rw [z, hcn]
      exact Nat.le_refl _
  · rcases key i hi with z | z
    · rw [(h1 i z).2] at p
      rw [(h1 i z).1, (h1 i z).2]
      exact g8 i z p
    · rw [z, hbn] at p
      omega
  · rcases key i hi with z | z
    · obtain ⟨er, x1, x2, x3⟩ := g9 i z
      refine ⟨er, by rw [hE i 6 z]; exact x1, x2, fun j hj => ?_⟩
      rw [x3 j hj, (h1 i z).1]
      constructor
      · rintro ⟨a, p⟩
        rw [(h1 j a).2]
        exact ⟨by omega, p⟩
      · rintro ⟨a, p⟩
        rcases key j a with q | q
        · rw [(h1 j q).2] at p
          exact ⟨q, p⟩
        · rw [q, hbn] at p
          omega
    · subst z
      refine ⟨rt, by rw [h6]; exact r1, r2, fun j hj => ?_⟩
      rw [r3 j hj, hcn]
      constructor
      · rintro ⟨a, p⟩
        rw [(h1 j a).2]
        exact ⟨by omega, p.1, by omega⟩
      · rintro ⟨a, p⟩
        rcases key j a with q | q
        · rw [(h1 j q).2] at p
          exact ⟨q, p.1, hb j q⟩
        · rw [q, hbn] at p
          omega
  · rcases key i hi with z | z
    · obtain ⟨ow, x1, x2, x3⟩ := g10 i z
      refine ⟨ow, by rw [hE i 7 z]; exact x1, x2, fun j hj => ?_⟩
      rw [x3 j hj]
      constructor
      · rintro ⟨a, p⟩
        exact ⟨a, by rw [hR j 4 (by omega) (by decide) (by decide), hR i 4 z (by decide) (by decide)]; exact p⟩
      · rintro ⟨a, p⟩
        rw [hR j 4 (by omega) (by decide) (by decide), hR i 4 z (by decide) (by decide)] at p
        exact ⟨a, p⟩
    · subst z
      obtain ⟨w, w1, w2, w3⟩ := plsOf_spec (P := fun i => E i 0) (pr := E' i 0) i (by omega)
      refine ⟨w, by rw [h7]; exact w1, w2, fun j hj => ?_⟩
      rw [w3 j]
      constructor
      · rintro ⟨a, p⟩
        refine ⟨a, ?_⟩
        rw [hR j 4 a (by decide) (by decide), (g3 j a).1, hO.1]
        exact p
      · rintro ⟨a, p⟩
        refine ⟨a, ?_⟩
        rw [hR j 4 a (by decide) (by decide), (g3 j a).1, hO.1] at p
        exact p
/-- a coming back -/
theorem OH.ret {E R E' R' : Nat → Nat → Int32} {N N' : Nat → Nat} {kind ret : Int32} {n e z : Nat} {c b c' b' : Nat → Nat} (h : OH E R N kind ret n n e c b) (hb : ∀ i, i < n → b i ≤ e) (hz : z < n) (hE : ∀ i k, i < n → k ≠ 5 ∨ i ≠ z → E' i k = E i k) (hR : ∀ i f, i < n → 4 ≤ f → f ≤ 9 → f ≠ 9 ∨ i ≠ z → R' i f = R i f) (hres : E' z 5 = R' z 9) (h1 : ∀ i, i < n → c' i = c i) (h2 : ∀ i, i < n → i ≠ z → b' i = b i) (hbz : b' z = e + 1) (hb0 : b z = 0) (hN : ∀ i, i < n → N' i = N i) : OH E' R' N' kind (ret ||| jish 1 (nI z)) n n (e + 1) c' b' := by
  obtain ⟨g1, g2, g3, ⟨rt, r1, r2, r3⟩, g5, g6, g7, g8, g9, g10, g11⟩ := h
  refine ⟨by omega, g2, fun i hi => (g3 i hi).congr (fun j k hj hk => hE j k (by omega) (Or.inl hk)) (fun f a b => hR i f hi a (by omega) (Or.inl (by omega))), ⟨rt ||| 2 ^ z, by rw [r1, jish1 (by omega), nx_or], or_lt16 r2 (by omega), fun i hi => ?_⟩, fun i hi p q => ?_, fun i hi => ?_, fun i i1 i2 => by omega, fun i hi p => ?_, fun i hi => ?_, fun i hi => ?_, fun i j hi hj => by rw [hN i hi, hN j hj]; exact g11 i j hi hj⟩
  · rw [tb_or, r3 i hi]
    constructor
    · rintro (⟨a, p⟩ | a)
      · have : i ≠ z := fun q => by rw [q] at p; omega
        rw [h2 i a this]
        exact ⟨a, p.1, by omega⟩
      · rw [a, hbz]
        exact ⟨hz, by omega, by omega⟩
    · rintro ⟨a, p⟩
      by_cases q : i = z
      · exact Or.inr q
      · rw [h2 i a q] at p
        exact Or.inl ⟨a, p.1, hb i a⟩
  · by_cases w : i = z
    · rw [w]; exact hres
    · rw [h2 i hi w] at p
      rw [hE i 5 hi (Or.inr w), hR i 9 hi (by decide) (by decide) (Or.inr w)]
      exact g5 i hi p (hb i hi)
  · rw [h1 i hi]
    have := g6 i hi
    omega
  · rw [h1 i hi]
    by_cases w : i = z
    · rw [w, hbz]
      have := g6 z hz
      omega
    · rw [h2 i hi w] at p ⊢
      exact g8 i hi p
  · obtain ⟨er, x1, x2, x3⟩ := g9 i hi
    refine ⟨er, by rw [hE i 6 hi (Or.inl (by decide))]; exact x1, x2, fun j hj => ?_⟩
    rw [x3 j hj, h1 i hi]
    constructor
    · rintro ⟨a, p⟩
      have : j ≠ z := fun q => by rw [q] at p; omega
      rw [h2 j a this]
      exact ⟨a, p⟩
    · rintro ⟨a, p⟩
      by_cases q : j = z
      · rw [q, hbz] at p
        have := g6 i hi
        omega
      · rw [h2 j a q] at p
        exact ⟨a, p⟩
  · obtain ⟨ow, x1, x2, x3⟩ := g10 i hi
    refine ⟨ow, by rw [hE i 7 hi (Or.inl (by decide))]; exact x1, x2, fun j hj => ?_⟩
    rw [x3 j hj]
    constructor
    · rintro ⟨a, p⟩
      exact ⟨a, by rw [hR j 4 (by omega) (by decide) (by decide) (Or.inl (by decide)), hR i 4 hi (by decide) (by decide) (Or.inl (by decide))]; exact p⟩
    · rintro ⟨a, p⟩
      rw [hR j 4 (by omega) (by decide) (by decide) (Or.inl (by decide)), hR i 4 hi (by decide) (by decide) (Or.inl (by decide))] at p
      exact ⟨a, p⟩
/-! the whole history -/
def HF (no np ev : Nat) (ow pl ca ba L cnt : Nat → Nat) : Prop :=
  no ≤ 6 ∧ np ≤ 48 ∧ (∀ k, k < no → cnt k ≤ 16) ∧
  (∀ x, x < np → ow x < no ∧ pl x < cnt (ow x) ∧ L (16 * ow x + pl x) = x) ∧
  (∀ k, k < no → ∀ i, i < cnt k → L (16 * k + i) < np ∧ ow (L (16 * k + i)) = k ∧ pl (L (16 * k + i)) = i) ∧
  (∀ k, k < no → ∀ i j, i < cnt k → j < cnt k → (L (16 * k + i) < L (16 * k + j) ↔ i < j)) ∧
  (∀ x y, x < y → y < np → ca x < ca y) ∧
  (∀ x, x < np → 1 ≤ ca x ∧ ca x ≤ ev ∧ (ba x = 0 ∨ ca x < ba x ∧ ba x ≤ ev)) ∧
  (∀ x y, x < np → y < np → ba x ≠ ca y ∧ (x ≠ y → ba x = ba y → ba x = 0))
theorem HF.call {no np ev : Nat} {ow pl ca ba L cnt : Nat → Nat} (h : HF no np ev ow pl ca ba L cnt) {k : Nat} (hk : k < no) (hnp : np < 48) (hc : cnt k < 16) : HF no (np + 1) (ev + 1) (upF ow np k) (upF pl np (cnt k)) (upF ca np (ev + 1)) (upF ba np 0) (upF L (16 * k + cnt k) np) (upF cnt k (cnt k + 1)) := by
  obtain ⟨h1, h2, h3, h4, h5, h6, h7, h8, h9⟩ := h
  have u1 : ∀ {α : Type} (f : Nat → α) (p : Nat) (v : α), upF f p v p = v := fun f p v => by unfold upF; rw [if_pos rfl]
  have u2 : ∀ {α : Type} (f : Nat → α) (p : Nat) (v : α) (x : Nat), x ≠ p → upF f p v x = f x := fun f p v x hx => by unfold upF; rw [if_neg hx]
  have key : ∀ x, x < np + 1 → x < np ∨ x = np := fun x hx => by omega
  have lt16 : ∀ x, x < np → pl x < 16 := fun x hx => by
    have a := h4 x hx
    have b := h3 _ a.1
    omega
  have L2 : ∀ j i, j < no → i < 16 → (j ≠ k ∨ i ≠ cnt k) → upF L (16 * k + cnt k) np (16 * j + i) = L (16 * j + i) := fun j i hj hi hne => u2 _ _ _ _ (by omega)
  refine ⟨h1, by omega, fun j hj => ?_, fun x hx => ?_, fun j hj i hi => ?_, fun j hj i z hi hz => ?_, fun x y hxy hy => ?_, fun x hx => ?_, fun x y hx hy => ?_⟩
  · by_cases q : j = k
    · rw [q, u1]; omega
    · rw [u2 _ _ _ _ q]; exact h3 j hj
  · rcases key x hx with q | q
    · have hne : x ≠ np := by omega
      rw [u2 _ _ _ _ hne, u2 _ _ _ _ hne]
      obtain ⟨a, b, c⟩ := h4 x q
      have d := lt16 x q
      refine ⟨a, ?_, ?_⟩
      · by_cases z : ow x = k
        · rw [z, u1]; rw [z] at b; omega
        · rw [u2 _ _ _ _ z]; exact b
      · rw [L2 _ _ a d (by
          by_cases z : ow x = k
          · right; rw [z] at b; omega
          · exact Or.inl z)]
        exact c
    · subst q
      rw [u1, u1, u1, u1]
      exact ⟨hk, by omega, rfl⟩
  · by_cases q : j = k
    · subst q
      rw [u1] at hi
      by_cases z : i = cnt j
      · subst z
        rw [u1, u1, u1]
        exact ⟨by omega, rfl, rfl⟩
      · have hi2 : i < cnt j := by omega
        rw [L2 j i hj (by omega) (Or.inr z)]
        obtain ⟨a, b, c⟩ := h5 j hj i hi2
        rw [u2 _ _ _ _ (by omega), u2 _ _ _ _ (by omega)]
        exact ⟨by omega, b, c⟩
    · rw [u2 _ _ _ _ q] at hi
      have := h3 j hj
      rw [L2 j i hj (by omega) (Or.inl q)]
      obtain ⟨a, b, c⟩ := h5 j hj i hi
      rw [u2 _ _ _ _ (by omega), u2 _ _ _ _ (by omega)]
      exact ⟨by omega, b, c⟩
  · by_cases q : j = k
    · subst q
      rw [u1] at hi hz
      by_cases a : i = cnt j
      · by_cases b : z = cnt j
        · rw [a, b]; omega
        · rw [a, u1, L2 j z hj (by omega) (Or.inr b)]
          have := (h5 j hj z (by omega)).1
          omega
      · by_cases b : z = cnt j
        · rw [b, u1, L2 j i hj (by omega) (Or.inr a)]
          have := (h5 j hj i (by omega)).1
          omega
        · rw [L2 j z hj (by omega) (Or.inr b), L2 j i hj (by omega) (Or.inr a)]
          exact h6 j hj i z (by omega) (by omega)
    · rw [u2 _ _ _ _ q] at hi hz
      have := h3 j hj
      rw [L2 j i hj (by omega) (Or.inl q), L2 j z hj (by omega) (Or.inl q)]
      exact h6 j hj i z hi hz
  · rcases key y hy with q | q
    · rw [u2 _ _ _ _ (by omega), u2 _ _ _ _ (by omega)]
      exact h7 x y hxy q
    · subst q
      rw [u1, u2 _ _ _ _ (by omega)]
      have := (h8 x hxy).2.1
      omega
  · rcases key x hx with q | q
    · rw [u2 _ _ _ _ (by omega), u2 _ _ _ _ (by omega)]
      have := h8 x q
      omega
    · subst q
      rw [u1, u1]
      omega
  · rcases key x hx with q | q
    · rw [u2 _ _ _ x (by omega)]
      rcases key y hy with z | z
      · rw [u2 _ _ _ y (by omega), u2 _ _ _ y (by omega)]
        exact h9 x y q z
      · subst z
        rw [u1, u1]
        have := h8 x q
        exact ⟨by omega, fun _ e => e⟩
    · subst q
      rw [u1]
      rcases key y hy with z | z
      · rw [u2 _ _ _ y (by omega)]
        have := h8 y z
        exact ⟨by omega, fun _ _ => rfl⟩
      · subst z
        rw [u1]
        exact ⟨by omega, fun q => absurd rfl q⟩
theorem HF.time {no np ev : Nat} {ow pl ca ba L cnt : Nat → Nat} (h : HF no np ev ow pl ca ba L cnt) : HF no np (ev + 1) ow pl ca ba L cnt := by
  obtain ⟨h1, h2, h3, h4, h5, h6, h7, h8, h9⟩ := h
  exact ⟨h1, h2, h3, h4, h5, h6, h7, fun x hx => by have := h8 x hx; omega, h9⟩
theorem HF.ret {no np ev : Nat} {ow pl ca ba L cnt : Nat → Nat} (h : HF no np ev ow pl ca ba L cnt) {x : Nat} (hx : x < np) (hb : ba x = 0) : HF no np (ev + 1) ow pl ca (upF ba x (ev + 1)) L cnt := by
  obtain ⟨h1, h2, h3, h4, h5, h6, h7, h8, h9⟩ := h
  have u1 : upF ba x (ev + 1) x = ev + 1 := by unfold upF; rw [if_pos rfl]
  have u2 : ∀ y, y ≠ x → upF ba x (ev + 1) y = ba y := fun y hy => by unfold upF; rw [if_neg hy]
  refine ⟨h1, h2, h3, h4, h5, h6, h7, fun y hy => ?_, fun y z hy hz => ?_⟩
  · have := h8 y hy
    by_cases q : y = x
    · rw [q, u1]
      rw [q] at this
      omega
    · rw [u2 y q]; omega
  · have a := h8 y hy
    have b := h8 z hz
    have c := h9 y z hy hz
    by_cases q : y = x
    · rw [q, u1]
      refine ⟨by omega, fun w e => ?_⟩
      rw [u2 z (fun r => w r.symm)] at e
      omega
    · rw [u2 y q]
      refine ⟨c.1, fun w e => ?_⟩
      by_cases r : z = x
      · rw [r, u1] at e
        omega
      · rw [u2 z r] at e
        exact c.2 w e
theorem HF.object {no np ev : Nat} {ow pl ca ba L cnt : Nat → Nat} (h : HF no np ev ow pl ca ba L cnt) (hno : no < 6) : HF (no + 1) np ev ow pl ca ba L (upF cnt no 0) := by
  obtain ⟨h1, h2, h3, h4, h5, h6, h7, h8, h9⟩ := h
  have u1 : upF cnt no 0 no = 0 := by unfold upF; rw [if_pos rfl]
  have u2 : ∀ k, k ≠ no → upF cnt no 0 k = cnt k := fun y hy => by unfold upF; rw [if_neg hy]
  refine ⟨by omega, h2, fun k hk => ?_, fun x hx => ?_, fun k hk i hi => ?_, fun k hk i j hi hj => ?_, h7, h8, h9⟩
  · by_cases q : k = no
    · rw [q, u1]; omega
    · rw [u2 k q]; exact h3 k (by omega)
  · obtain ⟨a, b, c⟩ := h4 x hx
    rw [u2 _ (by omega)]
    exact ⟨by omega, b, c⟩
  · by_cases q : k = no
    · rw [q, u1] at hi; omega
    · rw [u2 k q] at hi
      exact h5 k (by omega) i hi
  · by_cases q : k = no
    · rw [q, u1] at hi; omega
    · rw [u2 k q] at hi hj
      exact h6 k (by omega) i j hi hj
theorem HF.zero (ow pl ca ba L cnt : Nat → Nat) : HF 0 0 0 ow pl ca ba L cnt := ⟨by omega, by omega, fun k hk => by omega, fun x hx => by omega, fun k hk => by omega, fun k hk => by omega, fun x y _ hy => by omega, fun x hx => by omega, fun x y hx => by omega⟩
