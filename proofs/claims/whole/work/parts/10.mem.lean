/-! THE MEMORY OF A WALK: what stands at an address (sh: 0 .. 6 an object of that place in vcl; 10 int[], 11 long[], 12 boolean[], 13 Operation[], 14 Subject[], each with its length; 99 nothing that is known), its references, its ints, its longs -/
abbrev MS : Type := Nat → Nat × Nat
abbrev MR : Type := Nat → Nat → Option Nat
abbrev MI : Type := Nat → Nat → Int32
abbrev MJ : Type := Nat → Nat → Int64
def s2 {α : Type} (f : Nat → Nat → α) (a k : Nat) (v : α) : Nat → Nat → α := fun b j => if b = a ∧ j = k then v else f b j
theorem s2_self {α : Type} (f : Nat → Nat → α) (a k : Nat) (v : α) : s2 f a k v a k = v := by simp [s2]
theorem s2_ne {α : Type} {f : Nat → Nat → α} {a k b j : Nat} {v : α} (h : b ≠ a ∨ j ≠ k) : s2 f a k v b j = f b j := by
  unfold s2
  rw [if_neg]
  rintro ⟨h1, h2⟩
  rcases h with h | h
  · exact h h1
  · exact h h2
theorem s2_a {α : Type} {f : Nat → Nat → α} {a k b j : Nat} {v : α} (h : b ≠ a) : s2 f a k v b j = f b j := s2_ne (Or.inl h)
theorem s2_k {α : Type} {f : Nat → Nat → α} {a k b j : Nat} {v : α} (h : j ≠ k) : s2 f a k v b j = f b j := s2_ne (Or.inr h)
theorem s2_row {α : Type} (f : Nat → Nat → α) (a k : Nat) (v : α) : s2 f a k v a = fun j => if j = k then v else f a j := by
  funext j
  simp [s2]
theorem s2_off {α : Type} {f : Nat → Nat → α} {a k b : Nat} {v : α} (h : b ≠ a) : s2 f a k v b = f b := by
  funext j
  exact s2_a h
/-- the kinds of an object's fields: 0 an int, 1 a long, 2 a reference -/
def fkL (ci : Nat) : List Nat := match ci with
  | 0 => [0, 0, 0, 0, 0, 0, 0, 0]
  | 1 => [2, 2, 2, 2, 0, 0, 0, 0]
  | 2 => [1, 0, 0]
  | 3 => [2, 2, 2, 2, 2, 0, 0, 0, 0, 0, 0, 0, 1, 0, 0, 0, 0, 0]
  | 4 => [2, 2, 2, 2, 0]
  | 5 => [2, 2, 2, 2, 2, 2, 2, 2, 2, 0, 0, 0, 0, 0, 1]
  | _ => [0, 0, 2, 2, 2, 0, 2, 2, 2, 2, 2, 2, 2, 2, 2, 0, 2, 2, 2, 2, 2, 2, 2, 2, 2, 2, 2, 1, 0, 0, 0, 0, 2, 2, 2]
def fv (r : MR) (I : MI) (J : MJ) (a t k : Nat) : Value := match t with
  | 0 => .int (I a k)
  | 1 => .long (J a k)
  | _ => va_rf (r a k)
def fvs (ks : List Nat) (r : MR) (I : MI) (J : MJ) (a : Nat) : List Value := (List.range ks.length).map (fun k => fv r I J a (ks.getD k 0) k)
theorem fvs_len (ks : List Nat) (r : MR) (I : MI) (J : MJ) (a : Nat) : (fvs ks r I J a).length = ks.length := by simp [fvs]
theorem fvs_get {ks : List Nat} {k t : Nat} (h : ks[k]? = some t) (r : MR) (I : MI) (J : MJ) (a : Nat) : (fvs ks r I J a)[k]? = some (fv r I J a t k) := by
  have hk : k < ks.length := (List.getElem?_eq_some_iff.mp h).1
  simp only [fvs, List.getElem?_map, List.getElem?_range hk, Option.map_some]
  rw [List.getD_eq_getElem?_getD, h]
  rfl
theorem fvs_set {ks : List Nat} {r r2 : MR} {I I2 : MI} {J J2 : MJ} {a k t : Nat} (h : ks[k]? = some t) (hr : ∀ j, j ≠ k → r2 a j = r a j) (hI : ∀ j, j ≠ k → I2 a j = I a j) (hJ : ∀ j, j ≠ k → J2 a j = J a j) : (fvs ks r I J a).set k (fv r2 I2 J2 a t k) = fvs ks r2 I2 J2 a := by
  have hk : k < ks.length := (List.getElem?_eq_some_iff.mp h).1
  apply List.ext_getElem?
  intro j
  by_cases hj : j = k
  · subst hj
    rw [List.getElem?_set_self (by rw [fvs_len]; exact hk), fvs_get h]
  · rw [List.getElem?_set_ne (Ne.symm hj)]
    by_cases hl : j < ks.length
    · have he : ks[j]? = some ks[j] := List.getElem?_eq_getElem hl
      rw [fvs_get he, fvs_get he]
      have e1 := hr j hj
      have e2 := hI j hj
      have e3 := hJ j hj
      unfold fv
      split
      · rw [e2]
      · rw [e3]
      · rw [e1]
    · rw [List.getElem?_eq_none (by rw [fvs_len]; omega), List.getElem?_eq_none (by rw [fvs_len]; omega)]
theorem fvs_congr {ks : List Nat} {r r2 : MR} {I I2 : MI} {J J2 : MJ} {a : Nat} (hr : r2 a = r a) (hI : I2 a = I a) (hJ : J2 a = J a) : fvs ks r2 I2 J2 a = fvs ks r I J a := by
  unfold fvs fv
  rw [hr, hI, hJ]
def cE (D : va_G) (sh : MS) (r : MR) (I : MI) (J : MJ) (a : Nat) : va_E := match (sh a).1 with
  | 10 => .inl (D.1 100, (sh a).2, .inl (I a))
  | 11 => .inl (D.1 101, (sh a).2, .inr (.inl (J a)))
  | 12 => .inl (D.1 102, (sh a).2, .inl (I a))
  | 13 => .inl (D.1 103, (sh a).2, .inr (.inr (.inr (.inr (r a)))))
  | 14 => .inl (D.1 104, (sh a).2, .inr (.inr (.inr (.inr (r a)))))
  | ci => .inr (ci, fvs (fkL ci) r I J a)
theorem cE_i {D : va_G} {sh : MS} {r : MR} {I : MI} {J : MJ} {a n : Nat} (h : sh a = (10, n)) : cE D sh r I J a = .inl (D.1 100, n, .inl (I a)) := by simp [cE, h]
theorem cE_l {D : va_G} {sh : MS} {r : MR} {I : MI} {J : MJ} {a n : Nat} (h : sh a = (11, n)) : cE D sh r I J a = .inl (D.1 101, n, .inr (.inl (J a))) := by simp [cE, h]
theorem cE_z {D : va_G} {sh : MS} {r : MR} {I : MI} {J : MJ} {a n : Nat} (h : sh a = (12, n)) : cE D sh r I J a = .inl (D.1 102, n, .inl (I a)) := by simp [cE, h]
theorem cE_p {D : va_G} {sh : MS} {r : MR} {I : MI} {J : MJ} {a n : Nat} (h : sh a = (13, n)) : cE D sh r I J a = .inl (D.1 103, n, .inr (.inr (.inr (.inr (r a))))) := by simp [cE, h]
theorem cE_u {D : va_G} {sh : MS} {r : MR} {I : MI} {J : MJ} {a n : Nat} (h : sh a = (14, n)) : cE D sh r I J a = .inl (D.1 104, n, .inr (.inr (.inr (.inr (r a))))) := by simp [cE, h]
theorem cE_o {D : va_G} {sh : MS} {r : MR} {I : MI} {J : MJ} {a ci n : Nat} (h : sh a = (ci, n)) (hc : ci < 10) : cE D sh r I J a = .inr (ci, fvs (fkL ci) r I J a) := by
  unfold cE
  rw [h]
  match ci, hc with
  | 0, _ => rfl
  | 1, _ => rfl
  | 2, _ => rfl
  | 3, _ => rfl
  | 4, _ => rfl
  | 5, _ => rfl
  | 6, _ => rfl
  | 7, _ => rfl
  | 8, _ => rfl
  | 9, _ => rfl
theorem cE_congr {D : va_G} {sh sh2 : MS} {r r2 : MR} {I I2 : MI} {J J2 : MJ} {a : Nat} (hs : sh2 a = sh a) (hr : r2 a = r a) (hI : I2 a = I a) (hJ : J2 a = J a) : cE D sh2 r2 I2 J2 a = cE D sh r I J a := by
  unfold cE
  rw [hs, hr, hI, hJ]
  split <;> first | rfl | rw [fvs_congr hr hI hJ]
def Wo (D : va_G) (sh : MS) (r : MR) (I : MI) (J : MJ) (H : Heap) : Prop := ∀ a : Nat, (sh a).1 ≠ 99 → va_at D vcl (a, cE D sh r I J a) H
theorem Wo.at {D : va_G} {sh : MS} {r : MR} {I : MI} {J : MJ} {H : Heap} (h : Wo D sh r I J H) {a : Nat} (ha : (sh a).1 ≠ 99) : va_at D vcl (a, cE D sh r I J a) H := h a ha
/-- one cell changes -/
theorem Wo.set {D : va_G} {sh : MS} {r r2 : MR} {I I2 : MI} {J J2 : MJ} {H H1 : Heap} (h : Wo D sh r I J H) {a : Nat} (he : va_at D vcl (a, cE D sh r2 I2 J2 a) H1) (hr : ∀ b, b ≠ a → r2 b = r b) (hI : ∀ b, b ≠ a → I2 b = I b) (hJ : ∀ b, b ≠ a → J2 b = J b) (oq : ∀ q : Nat, q ≠ a → H1[q]? = H[q]?) : Wo D sh r2 I2 J2 H1 := by
  intro b hb
  by_cases hba : b = a
  · subst hba
    exact he
  · rw [cE_congr rfl (hr b hba) (hI b hba) (hJ b hba)]
    exact (h b hb).kept (oq b hba)
theorem Wo.lt {D : va_G} {sh : MS} {r : MR} {I : MI} {J : MJ} {H : Heap} (h : Wo D sh r I J H) {a : Nat} (ha : (sh a).1 ≠ 99) : a < H.size := (h a ha).lt
/-- a cell comes -/
theorem Wo.push {D : va_G} {sh sh2 : MS} {r r2 : MR} {I I2 : MI} {J J2 : MJ} {H H1 : Heap} (h : Wo D sh r I J H) {z : Nat} (hz : H.size = z) (he : va_at D vcl (z, cE D sh2 r2 I2 J2 z) H1) (hs : ∀ b, b ≠ z → sh2 b = sh b) (hr : ∀ b, b ≠ z → r2 b = r b) (hI : ∀ b, b ≠ z → I2 b = I b) (hJ : ∀ b, b ≠ z → J2 b = J b) (oq : ∀ q : Nat, q < z → H1[q]? = H[q]?) : Wo D sh2 r2 I2 J2 H1 := by
  intro b hb
  by_cases hba : b = z
  · subst hba
    exact he
  · have hb2 : (sh b).1 ≠ 99 := by rw [← hs b hba]; exact hb
    rw [cE_congr (hs b hba) (hr b hba) (hI b hba) (hJ b hba)]
    exact (h b hb2).kept (oq b (by rw [← hz]; exact h.lt hb2))
/-! the tables' part of it -/
def ktys (D : va_G) : List (ClassId × FieldType) := [(D.1 100, .int), (D.1 101, .long), (D.1 102, .boolean), (D.1 103, .object "LinearHistories$Operation"), (D.1 104, .object "LinearHistories$Subject")]
def knest : List Cond := [.methodLinkNest "LinearHistories" 31 ySp_init "LinearHistories", .methodLinkNest "LinearHistories$Space" 11 yTa_init "LinearHistories", .methodLinkNest "LinearHistories$Space" 20 ySt_init "LinearHistories", .methodLinkNest "LinearHistories$Subject" 19 ySp_init "LinearHistories", .methodLinkNest "LinearHistories$Subject" 34 yOp_init "LinearHistories"]
def KK (D : va_G) (U : State) : Prop := va_K D vcl (ktys D) U ∧ va_AO "LinearHistories$Operation" U ∧ va_AO "LinearHistories$Subject" U ∧ ∀ w ∈ knest, va_Nw w U
theorem KK.warm {D : va_G} {s U : State} (hW : s.WarmedH U.vm) (h : KK D s) : KK D U := by
  refine ⟨va_K.moved hW.alike h.1, va_AO.moved hW.alike h.2.1, va_AO.moved hW.alike h.2.2.1, fun w hw => ?_⟩
  have h4 := h.2.2.2 w hw
  simp only [knest, List.mem_cons, List.not_mem_nil, or_false] at hw
  rcases hw with rfl | rfl | rfl | rfl | rfl <;> exact va_Nw.warmM hW h4
theorem KK.same {D : va_G} {s U : State} (hv : s.vm = U.vm) (h : KK D s) : KK D U := by
  have ha : s.vm.Alike U.vm := by rw [hv]; exact Vm.Alike.refl _
  refine ⟨va_K.moved ha h.1, va_AO.moved ha h.2.1, va_AO.moved ha h.2.2.1, fun w hw => ?_⟩
  have h4 := h.2.2.2 w hw
  simp only [knest, List.mem_cons, List.not_mem_nil, or_false] at hw
  rcases hw with rfl | rfl | rfl | rfl | rfl <;> exact va_Nw.same rfl hv h4
/-- a class of vcl by its tables -/
def CF (ci : Nat) (C : String) (T : u_T) (N : Nat) (ty : Nat → FieldType) : Prop := vcl[ci]? = some (C, T, N) ∧ (∀ w ∈ u_ws C T N, w ∈ TB) ∧ (∀ k, k < N → parseFieldDescriptor (T k).2.2.1 = some (ty k)) ∧ (∀ a, a < N → ∀ b, b < N → a ≠ b → (T a).2.1 ≠ (T b).2.1) ∧ (fkL ci).length = N ∧ ci < 10
theorem cfOp : CF 0 ROp TOp 8 tyOp := ⟨rfl, inOp, tyOp_ok, nmOp, rfl, by decide⟩
theorem cfSp : CF 1 RSp TSp 8 tySp := ⟨rfl, inSp, tySp_ok, nmSp, rfl, by decide⟩
theorem cfSt : CF 2 RSt TSt 3 tySt := ⟨rfl, inSt, tySt_ok, nmSt, rfl, by decide⟩
theorem cfSu : CF 3 RSu TSu 18 tySu := ⟨rfl, inSu, tySu_ok, nmSu, rfl, by decide⟩
theorem cfTa : CF 4 RTa TTa 5 tyTa := ⟨rfl, inTa, tyTa_ok, nmTa, rfl, by decide⟩
theorem cfLH : CF 5 RLH TLH 15 tyLH := ⟨rfl, inLH, tyLH_ok, nmLH, rfl, by decide⟩
theorem cfMo : CF 6 RMo TMo 35 tyMo := ⟨rfl, inMo, tyMo_ok, nmMo, rfl, by decide⟩
/-! the locals by their places -/
def prs (lv : List (Option Value)) : List (Nat × Value) := (List.range lv.length).filterMap (fun i => (lv[i]?.join).map (fun v => (i, v)))
theorem mem_prs {lv : List (Option Value)} {i : Nat} {v : Value} : (i, v) ∈ prs lv ↔ lv[i]? = some (some v) := by
  unfold prs
  rw [List.mem_filterMap]
  constructor
  · rintro ⟨j, hj, h⟩
    cases hx : lv[j]? with
    | none => rw [hx] at h; cases h
    | some o =>
      cases o with
      | none => rw [hx] at h; cases h
      | some w =>
        rw [hx] at h
        have h2 : (j, w) = (i, v) := Option.some.inj h
        have e1 : j = i := congrArg Prod.fst h2
        have e2 : w = v := congrArg Prod.snd h2
        subst e1; subst e2
        exact hx
  · intro h
    refine ⟨i, List.mem_range.mpr (List.getElem?_eq_some_iff.mp h).1, ?_⟩
    rw [h]
    rfl
def lh (ls : Array Slot) (nL : Nat) (lv : List (Option Value)) : Prop := lv_has ls nL (prs lv)
theorem lh.at {ls : Array Slot} {nL : Nat} {lv : List (Option Value)} (h : lh ls nL lv) {i : Nat} {v : Value} (hi : lv[i]? = some (some v)) : ls[i]? = some (.val v) := h.2.2 (i, v) (mem_prs.mpr hi)
theorem lv_has.mono {ls : Array Slot} {nL : Nat} {l l2 : List (Nat × Value)} (h : lv_has ls nL l) (hs : ∀ q ∈ l2, q ∈ l) : lv_has ls nL l2 := ⟨h.1, h.2.1, fun q hq => h.2.2 q (hs q hq)⟩
/-- no long stands just before the place -/
def ok1 (lv : List (Option Value)) (i : Nat) : Bool := match i with
  | 0 => true
  | j + 1 => match lv[j]? with
    | some (some v) => v.category == 1
    | _ => true
theorem lh.set1 {ls : Array Slot} {nL i : Nat} {lv : List (Option Value)} {v : Value} (h : lv_has ls nL ((i, v) :: (prs lv).filter (fun q => !(q.1 == i) && !(q.1 + 1 == i && q.2.category == 2)))) (hok : ok1 lv i = true) : lh ls nL (lv.set i (some v)) := by
  refine h.mono fun q hq => ?_
  obtain ⟨j, w⟩ := q
  replace hq := mem_prs.mp hq
  by_cases hj : j = i
  · subst hj
    have hl : j < lv.length := by
      have := (List.getElem?_eq_some_iff.mp hq).1
      simpa using this
    rw [List.getElem?_set_self hl] at hq
    have : v = w := Option.some.inj (Option.some.inj hq)
    subst this
    exact List.mem_cons_self
  · rw [List.getElem?_set_ne (Ne.symm hj)] at hq
    refine List.mem_cons_of_mem _ (List.mem_filter.mpr ⟨mem_prs.mpr hq, ?_⟩)
    have h1 : (j == i) = false := by simpa using hj
    rw [h1]
    by_cases hj2 : j + 1 = i
    · subst hj2
      have hok : (match lv[j]? with
        | some (some v) => v.category == 1
        | _ => true) = true := hok
      rw [hq] at hok
      have hc : w.category = 1 := by simpa using hok
      simp [hc]
    · have h2 : (j + 1 == i) = false := by simpa using hj2
      simp [h2]
theorem lh.set2 {ls : Array Slot} {nL i : Nat} {lv : List (Option Value)} {v : Value} (h : lv_has ls nL ((i, v) :: (prs lv).filter (fun q => !(q.1 == i) && (!(q.1 == i + 1) && !(q.1 + 1 == i && q.2.category == 2))))) (hok : ok1 lv i = true) : lh ls nL ((lv.set i (some v)).set (i + 1) none) := by
  refine h.mono fun q hq => ?_
  obtain ⟨j, w⟩ := q
  replace hq := mem_prs.mp hq
  by_cases hj1 : j = i + 1
  · subst hj1
    have hl : i + 1 < (lv.set i (some v)).length := by
      have := (List.getElem?_eq_some_iff.mp hq).1
      simpa using this
    rw [List.getElem?_set_self hl] at hq
    cases hq
  · rw [List.getElem?_set_ne (Ne.symm hj1)] at hq
    by_cases hj : j = i
    · subst hj
      have hl : j < lv.length := by
        have := (List.getElem?_eq_some_iff.mp hq).1
        simpa using this
      rw [List.getElem?_set_self hl] at hq
      have : v = w := Option.some.inj (Option.some.inj hq)
      subst this
      exact List.mem_cons_self
    · rw [List.getElem?_set_ne (Ne.symm hj)] at hq
      refine List.mem_cons_of_mem _ (List.mem_filter.mpr ⟨mem_prs.mpr hq, ?_⟩)
      have h1 : (j == i) = false := by simpa using hj
      have h1' : (j == i + 1) = false := by simpa using hj1
      rw [h1, h1']
      by_cases hj2 : j + 1 = i
      · subst hj2
        have hok : (match lv[j]? with
          | some (some v) => v.category == 1
          | _ => true) = true := hok
        rw [hq] at hok
        have hc : w.category = 1 := by simpa using hok
        simp [hc]
      · have h2 : (j + 1 == i) = false := by simpa using hj2
        simp [h2]
/-- fewer known locals -/
theorem lh.less {ls : Array Slot} {nL : Nat} {lv lv2 : List (Option Value)} (h : lh ls nL lv) (hs : ∀ (i : Nat) (v : Value), lv2[i]? = some (some v) → lv[i]? = some (some v)) : lh ls nL lv2 := h.mono fun q hq => by
  obtain ⟨i, v⟩ := q
  exact mem_prs.mpr (hs i v (mem_prs.mp hq))
