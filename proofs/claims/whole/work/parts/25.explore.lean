/-- what is known of the locals is known -/
def lsub : List (Option Value) → List (Option Value) → Prop
  | [], _ => True
  | none :: a, _ :: b => lsub a b
  | some v :: a, w :: b => w = some v ∧ lsub a b
  | _ :: _, [] => False
theorem lsub_at : ∀ (a b : List (Option Value)), lsub a b → ∀ (i : Nat) (v : Value), a[i]? = some (some v) → b[i]? = some (some v)
  | [], _, _, i, v, h => by simp at h
  | none :: a, [], h, _, _, _ => h.elim
  | some _ :: a, [], h, _, _, _ => h.elim
  | none :: a, w :: b, h, 0, v, e => by simp at e
  | none :: a, w :: b, h, i + 1, v, e => by
    have h : lsub a b := h
    simpa using lsub_at a b h i v (by simpa using e)
  | some y :: a, w :: b, h, 0, v, e => by
    have h : w = some y ∧ lsub a b := h
    have e2 : y = v := by simpa using e
    rw [h.1, e2]
    rfl
  | some y :: a, w :: b, h, i + 1, v, e => by
    have h : w = some y ∧ lsub a b := h
    simpa using lsub_at a b h.2 i v (by simpa using e)
theorem V.drop {x : KX} {g : GM} {cells slots : Nat} {I : MI} {J : MJ} {pc : Nat} {lv lv2 : List (Option Value)} {st : List Value} (k : V x g cells slots I J pc lv2 st) (h : lsub lv2 lv) : V x g cells slots I J pc lv st := k.less (lsub_at lv2 lv h)
def offB (s n : Nat) (I : MI) (J : MJ) (I2 : MI) (J2 : MJ) : Prop := (∀ b, b < s ∨ s + n ≤ b → I2 b = I b) ∧ ∀ b, b < s ∨ s + n ≤ b → J2 b = J b
theorem sp_out {g : GM} {s a c n : Nat} (hS : SpAt g s) (ha : g.1 a = (c, n)) (hc : c = 0 ∨ c = 3 ∨ c = 5 ∨ c = 6 ∨ c = 13 ∨ c = 14) : a < s ∨ s + 9 ≤ a := by
  obtain ⟨s0, ⟨t0, t1, t2, t3, t4, -⟩, s6, s7, s8, -⟩ := hS
  rcases Nat.lt_or_ge a s with h | h
  · exact Or.inl h
  rcases Nat.lt_or_ge a (s + 9) with h9 | h9
  · exfalso
    have hk : a = s ∨ a = s + 1 ∨ a = s + 1 + 1 ∨ a = s + 1 + 2 ∨ a = s + 1 + 3 ∨ a = s + 1 + 4 ∨ a = s + 6 ∨ a = s + 7 ∨ a = s + 8 := by omega
    rcases hk with e | e | e | e | e | e | e | e | e <;> subst e
    · exact sh_ne ha s0 (by omega) rfl
    · exact sh_ne ha t0 (by omega) rfl
    · exact sh_ne ha t1 (by omega) rfl
    · exact sh_ne ha t2 (by omega) rfl
    · exact sh_ne ha t3 (by omega) rfl
    · exact sh_ne ha t4 (by omega) rfl
    · exact sh_ne ha s6 (by omega) rfl
    · exact sh_ne ha s7 (by omega) rfl
    · exact sh_ne ha s8 (by omega) rfl
  · exact Or.inr h9
theorem stp_congr {E E2 : Nat → Nat → Int32} {kind ret own key : Int32} {w : Int64} {p : Nat} (hp : p < 16) (h : ∀ i k, i < 16 → E2 i k = E i k) : stp E2 kind ret own key w p = stp E kind ret own key w p := by
  have e : chgE E2 kind p w (jiu key 16) = chgE E kind p w (jiu key 16) := by
    unfold chgE
    rw [h p 1 hp, h p 2 hp, h p 3 hp, h p 4 hp]
    exact chg_congr (fun i hi => h i 2 hi) (fun i hi => h i 3 hi)
  unfold stp barred suits
  rw [e, h p 5 hp, h p 6 hp, h p 7 hp]
def XIs (I : MI) (J : MJ) (s : Nat) (X : XS) : Prop := TabOK I J (s + 1) X.1 ∧ ∀ i, i < X.1 → I (s + 1 + 1) i = X.2.1 i ∧ J (s + 1 + 2) i = X.2.2.1 i ∧ J (s + 7) i = X.2.2.2 i
theorem XIs.offA {I I2 : MI} {J J2 : MJ} {s : Nat} {X : XS} (h : XIs I J s X) (ho : offA (s + 6) I J I2 J2) : XIs I2 J2 s X := by
  refine ⟨h.1.off (fun b h1 h2 => ho.1 b (by omega)) (ho.2 _ (by omega)), ?_⟩
  rw [ho.1 (s + 1 + 1) (by omega), ho.2 (s + 1 + 2) (by omega), ho.2 (s + 7) (by omega)]
  exact h.2
def XM (I : MI) (J : MJ) (s cnt : Nat) (ret own : Int32) (X : XS) (Ic : MI) (Jc : MJ) : Prop := XIs Ic Jc s X ∧ KInv X ∧ Ic s 4 = 0 ∧ Ic s 5 = nI cnt ∧ Ic s 6 = ret ∧ Ic s 7 = own ∧ offB s 9 I J Ic Jc
def expQ (g : GM) (I : MI) (J : MJ) (s u cnt : Nat) (ret own : Int32) : Option Value → GM → MI → MJ → Prop := fun v g2 I2 J2 => g2 = g ∧ (xrun (opE I u) (I u 5) ret own cnt = none ∧ v = some (.int 0) ∧ offB s 9 I J I2 J2 ∨ ∃ X, xrun (opE I u) (I u 5) ret own cnt = some X ∧ v = some (.int 1) ∧ XM I J s cnt ret own X I2 J2)
theorem lk_mem {I : MI} {J : MJ} {s : Nat} {X : XS} (h : XIs I J s X) (key : Int32) (w : Int64) : lk (I (s + 1 + 1)) (J (s + 1 + 2)) key w X.1 = lk X.2.1 X.2.2.1 key w X.1 := lk_congr X.1 (fun i hi => ⟨(h.2 i hi).1, (h.2 i hi).2.1⟩)
/-- the memory behind a possibility that came -/
theorem xadd_new {I Ic I5 : MI} {J Jc J5 : MJ} {s cnt f : Nat} {ret own key : Int32} {w : Int64} {X : XS} {m sz : Nat} (h : XM I J s cnt ret own X Ic Jc) (hf : f < X.1) (hk : KeyG key m sz) (hn : lk X.2.1 X.2.2.1 key w X.1 = -1) (hlt : X.1 < 2000) (hR : keepR Ic Jc (s + 1) X.1 key w I5 J5) : xadd X f key w = some (X.1 + 1, upF X.2.1 X.1 key, upF X.2.2.1 X.1 w, upF X.2.2.2 X.1 (X.2.2.2 f)) ∧ XM I J s cnt ret own (X.1 + 1, upF X.2.1 X.1 key, upF X.2.2.1 X.1 w, upF X.2.2.2 X.1 (X.2.2.2 f)) I5 (s2 J5 (s + 7) X.1 (J5 (s + 7) f)) := by
  obtain ⟨hX, hK, h4, h5, h6, h7, ho⟩ := h
  obtain ⟨r1, r2, r3, r4, r5, r6, r7⟩ := hR
  have e : xadd X f key w = some (X.1 + 1, upF X.2.1 X.1 key, upF X.2.2.1 X.1 w, upF X.2.2.2 X.1 (X.2.2.2 f)) := by
    unfold xadd
    rw [if_pos hn, if_pos hlt]
  refine ⟨e, ⟨?_, ?_⟩, (xadd_inv hK hk e).1, ?_, ?_, ?_, ?_, ?_, ?_⟩
  · exact r1.off (fun _ _ _ => rfl) (s2_off (by omega))
  · intro i hi
    have hi : i < X.1 + 1 := hi
    rw [s2_a (show s + 1 + 2 ≠ s + 7 by omega), s2_row]
    show _ = upF X.2.1 X.1 key i ∧ _ = upF X.2.2.1 X.1 w i ∧ _ = upF X.2.2.2 X.1 (X.2.2.2 f) i
    unfold upF
    have e7 : J5 (s + 7) = Jc (s + 7) := r7 _ (by omega)
    by_cases hq : i = X.1
    · subst hq
      refine ⟨by rw [if_pos rfl]; exact r2, by rw [if_pos rfl]; exact r3, ?_⟩
      show (if _ then _ else _) = _
      rw [if_pos rfl, if_pos rfl, e7]
      exact (hX.2 f hf).2.2
    · have h9 := hX.2 i (by omega)
      refine ⟨by rw [if_neg hq, r4 i hq]; exact h9.1, by rw [if_neg hq, r5 i hq]; exact h9.2.1, ?_⟩
      show (if _ then _ else _) = _
      rw [if_neg hq, if_neg hq, e7]
      exact h9.2.2
  · rw [r6 s (by omega)]; exact h4
  · rw [r6 s (by omega)]; exact h5
  · rw [r6 s (by omega)]; exact h6
  · rw [r6 s (by omega)]; exact h7
  · exact fun b hb => by rw [r6 b (by omega)]; exact ho.1 b hb
  · exact fun b hb => by rw [s2_off (by omega), r7 b (by omega)]; exact ho.2 b hb
/-- .. that was known -/
theorem xadd_old {I Ic : MI} {J Jc : MJ} {s cnt f i : Nat} {ret own key : Int32} {w : Int64} {X : XS} (h : XM I J s cnt ret own X Ic Jc) (hf : f < X.1) (hi : i < X.1) (hn : lk X.2.1 X.2.2.1 key w X.1 = nI i) : xadd X f key w = some (X.1, X.2.1, X.2.2.1, upF X.2.2.2 i (X.2.2.2 i + X.2.2.2 f)) ∧ XM I J s cnt ret own (X.1, X.2.1, X.2.2.1, upF X.2.2.2 i (X.2.2.2 i + X.2.2.2 f)) Ic (s2 Jc (s + 7) i (Jc (s + 7) i + Jc (s + 7) f)) := by
  obtain ⟨hX, hK, h4, h5, h6, h7, ho⟩ := h
  have hb := hK.1
  have hne : ¬ nI i = -1 := fun e => by
    have h0 := nI_pos (n := i) (by omega)
    rw [e] at h0
    exact h0 (by decide)
  refine ⟨?_, ⟨hX.1.off (fun _ _ _ => rfl) (s2_off (by omega)), ?_⟩, ⟨hK.1, hK.2⟩, h4, h5, h6, h7, ho.1, ?_⟩
  · unfold xadd
    rw [hn, if_neg hne]
    have e : ix (nI i) = i := nI_clamp (by omega)
    rw [e]
  · intro j hj
    have h9 := hX.2 j hj
    refine ⟨h9.1, by rw [s2_a (by omega)]; exact h9.2.1, ?_⟩
    rw [s2_row]
    show (if _ then _ else _) = upF X.2.2.2 i _ j
    unfold upF
    by_cases hq : j = i
    · rw [if_pos hq, if_pos hq, (hX.2 i hi).2.2, (hX.2 f hf).2.2]
    · rw [if_neg hq, if_neg hq]
      exact h9.2.2
  · exact fun b hb => by rw [s2_off (by omega)]; exact ho.2 b hb
