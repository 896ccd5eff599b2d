/-! THE JUDGEMENT V: the machine at pc with the locals lv, the stack st, the memory (sh, r, I, J), comes to an end with Q -/
abbrev KX : Type := Program × Launch × Env × Room × State × MethodId × Array Value × List Frame × Method × Code × Nat × va_G × (Nat → Prop) × (State → Prop)
abbrev kp (x : KX) : Program := x.1
abbrev kl (x : KX) : Launch := x.2.1
abbrev ke (x : KX) : Env := x.2.2.1
abbrev kR (x : KX) : Room := x.2.2.2.1
abbrev ks (x : KX) : State := x.2.2.2.2.1
abbrev km (x : KX) : MethodId := x.2.2.2.2.2.1
abbrev kar (x : KX) : Array Value := x.2.2.2.2.2.2.1
abbrev kbe (x : KX) : List Frame := x.2.2.2.2.2.2.2.1
abbrev kme (x : KX) : Method := x.2.2.2.2.2.2.2.2.1
abbrev kc (x : KX) : Code := x.2.2.2.2.2.2.2.2.2.1
abbrev kn (x : KX) : Nat := x.2.2.2.2.2.2.2.2.2.2.1
abbrev kD (x : KX) : va_G := x.2.2.2.2.2.2.2.2.2.2.2.1
abbrev kA (x : KX) : Nat → Prop := x.2.2.2.2.2.2.2.2.2.2.2.2.1
abbrev kQ (x : KX) : State → Prop := x.2.2.2.2.2.2.2.2.2.2.2.2.2
/-- shapes, references, the heap's size -/
abbrev GM : Type := MS × MR × Nat
def V (x : KX) (g : GM) (cells slots : Nat) (I : MI) (J : MJ) (pc : Nat) (lv : List (Option Value)) (st : List Value) : Prop :=
  ∀ (H : Heap) (locs : List Loc) (ls : Array Slot), H.size = g.2.2 → Wo (kD x) g.1 g.2.1 I J H → (∀ a : Nat, (g.1 a).1 ≠ 99 → kA x a) → va_S (kA x) (ks x).heap H locs → lh ls (kn x) lv → W (kp x) (kl x) (ke x) (kR x) (ks x) (km x) (kar x) (kbe x) (kme x) (kc x) H locs cells slots (kQ x) (F0 (km x) pc ls st)
/-- what is fixed of a method's walk: its code, its class, how many locals, its room -/
def Cx (x : KX) (cc : ByteArray) (own : String) (nL : Nat) (rm : Room) : Prop :=
  (kp x).tables.exec = Jvm.exec ∧ (kc x).code = cc ∧ (ks x).vm.findClass own = some (km x).cls ∧ (∀ w ∈ TB, w.before (kar x) (ks x) = true) ∧ KK (kD x) (ks x) ∧ (kc x).maxLocals = nL ∧ kn x = nL ∧ kR x = rm ∧ (kme x).locks = false ∧ (∀ q, (ks x).heap.size ≤ q → kA x q)
section VR
variable {x : KX} {cc : ByteArray} {own : String} {nL : Nat} {rm : Room} {g : GM} {cells slots : Nat} {I : MI} {J : MJ} {pc : Nat} {lv : List (Option Value)} {st : List Value}
theorem Cx.tb (C : Cx x cc own nL rm) {w : Cond} (h : w ∈ TB) : w.before (kar x) (ks x) = true := C.2.2.2.1 w h
theorem V.less {lv2 : List (Option Value)} (k : V x g cells slots I J pc lv2 st) (hs : ∀ (i : Nat) (v : Value), lv2[i]? = some (some v) → lv[i]? = some (some v)) : V x g cells slots I J pc lv st := fun H locs ls a b c d h => k H locs ls a b c d (h.less hs)
theorem V.widen {c2 s3 : Nat} (k : V x g c2 s3 I J pc lv st) (h1 : cells ≤ c2) (h2 : slots ≤ s3) : V x g cells slots I J pc lv st := fun H locs ls a b c d h => W.widen h1 h2 (k H locs ls a b c d h)
theorem v_iconst (C : Cx x cc own nL rm) {n : Int} (v : Int32) (d : decode cc pc = .ok (.iconst n, 1)) (hv : Int32.ofInt n = v) (k : V x g cells slots I J (pc + 1) lv (.int v :: st)) : V x g cells slots I J pc lv (st) := fun H locs ls a1 a2 a3 a4 a5 => lv_iconst C.1 C.2.1 d hv (k H locs ls a1 a2 a3 a4 a5)
theorem v_bipush (C : Cx x cc own nL rm) {n : Int} (v : Int32) (d : decode cc pc = .ok (.bipush n, 2)) (hv : (Int8.ofInt n).toInt32 = v) (k : V x g cells slots I J (pc + 2) lv (.int v :: st)) : V x g cells slots I J pc lv (st) := fun H locs ls a1 a2 a3 a4 a5 => lv_bipush C.1 C.2.1 d hv (k H locs ls a1 a2 a3 a4 a5)
theorem v_sipush (C : Cx x cc own nL rm) {n : Int} (v : Int32) (d : decode cc pc = .ok (.sipush n, 3)) (hv : (Int16.ofInt n).toInt32 = v) (k : V x g cells slots I J (pc + 3) lv (.int v :: st)) : V x g cells slots I J pc lv (st) := fun H locs ls a1 a2 a3 a4 a5 => lv_sipush C.1 C.2.1 d hv (k H locs ls a1 a2 a3 a4 a5)
theorem v_lconst (C : Cx x cc own nL rm) {n : Fin 2} (v : Int64) (d : decode cc pc = .ok (.lconst n, 1)) (hv : Int64.ofNat (n : Nat) = v) (k : V x g cells slots I J (pc + 1) lv (.long v :: st)) : V x g cells slots I J pc lv (st) := fun H locs ls a1 a2 a3 a4 a5 => lv_lconst C.1 C.2.1 d hv (k H locs ls a1 a2 a3 a4 a5)
theorem v_iload_n (C : Cx x cc own nL rm) {q : Fin 4} (i : Nat) {y : Int32} (d : decode cc pc = .ok (.iload_n q, 1)) (hi : (q : Nat) = i) (h : lv[i]? = some (some (.int y))) (k : V x g cells slots I J (pc + 1) lv (.int y :: st)) : V x g cells slots I J pc lv st := fun H locs ls a1 a2 a3 a4 a5 => lv_iload_n C.1 C.2.1 d hi (a5.at h) (k H locs ls a1 a2 a3 a4 a5)
theorem v_iload (C : Cx x cc own nL rm) {i : Nat} {y : Int32} (d : decode cc pc = .ok (.iload i, 2)) (h : lv[i]? = some (some (.int y))) (k : V x g cells slots I J (pc + 2) lv (.int y :: st)) : V x g cells slots I J pc lv st := fun H locs ls a1 a2 a3 a4 a5 => lv_iload C.1 C.2.1 d (a5.at h) (k H locs ls a1 a2 a3 a4 a5)
theorem v_lload_n (C : Cx x cc own nL rm) {q : Fin 4} (i : Nat) {y : Int64} (d : decode cc pc = .ok (.lload_n q, 1)) (hi : (q : Nat) = i) (h : lv[i]? = some (some (.long y))) (k : V x g cells slots I J (pc + 1) lv (.long y :: st)) : V x g cells slots I J pc lv st := fun H locs ls a1 a2 a3 a4 a5 => lv_lload_n C.1 C.2.1 d hi (a5.at h) (k H locs ls a1 a2 a3 a4 a5)
theorem v_lload (C : Cx x cc own nL rm) {i : Nat} {y : Int64} (d : decode cc pc = .ok (.lload i, 2)) (h : lv[i]? = some (some (.long y))) (k : V x g cells slots I J (pc + 2) lv (.long y :: st)) : V x g cells slots I J pc lv st := fun H locs ls a1 a2 a3 a4 a5 => lv_lload C.1 C.2.1 d (a5.at h) (k H locs ls a1 a2 a3 a4 a5)
theorem v_aload_n (C : Cx x cc own nL rm) {q : Fin 4} (i : Nat) {a : Nat} (d : decode cc pc = .ok (.aload_n q, 1)) (hi : (q : Nat) = i) (h : lv[i]? = some (some (.ref a))) (k : V x g cells slots I J (pc + 1) lv (.ref a :: st)) : V x g cells slots I J pc lv st := fun H locs ls a1 a2 a3 a4 a5 => lv_aload_n C.1 C.2.1 d hi (a5.at h) (k H locs ls a1 a2 a3 a4 a5)
theorem v_aload (C : Cx x cc own nL rm) {i : Nat} {a : Nat} (d : decode cc pc = .ok (.aload i, 2)) (h : lv[i]? = some (some (.ref a))) (k : V x g cells slots I J (pc + 2) lv (.ref a :: st)) : V x g cells slots I J pc lv st := fun H locs ls a1 a2 a3 a4 a5 => lv_aload C.1 C.2.1 d (a5.at h) (k H locs ls a1 a2 a3 a4 a5)
theorem v_istore_n (C : Cx x cc own nL rm) {q : Fin 4} (i : Nat) {y : Int32} (d : decode cc pc = .ok (.istore_n q, 1)) (hi : (q : Nat) = i) (hn : i < nL) (hok : ok1 lv i = true) (k : V x g cells slots I J (pc + 1) (lv.set i (some (.int y))) st) : V x g cells slots I J pc lv (.int y :: st) := fun H locs ls a1 a2 a3 a4 a5 => lv_istore_n C.1 C.2.1 d hi a5 (by rw [C.2.2.2.2.2.2.1]; exact hn) rfl (fun ls h => k H locs ls a1 a2 a3 a4 (lh.set1 h hok))
theorem v_istore (C : Cx x cc own nL rm) {i : Nat} {y : Int32} (d : decode cc pc = .ok (.istore i, 2)) (hn : i < nL) (hok : ok1 lv i = true) (k : V x g cells slots I J (pc + 2) (lv.set i (some (.int y))) st) : V x g cells slots I J pc lv (.int y :: st) := fun H locs ls a1 a2 a3 a4 a5 => lv_istore C.1 C.2.1 d a5 (by rw [C.2.2.2.2.2.2.1]; exact hn) rfl (fun ls h => k H locs ls a1 a2 a3 a4 (lh.set1 h hok))
theorem v_astore_n (C : Cx x cc own nL rm) {q : Fin 4} (i : Nat) {y : Nat} (d : decode cc pc = .ok (.astore_n q, 1)) (hi : (q : Nat) = i) (hn : i < nL) (hok : ok1 lv i = true) (k : V x g cells slots I J (pc + 1) (lv.set i (some (.ref y))) st) : V x g cells slots I J pc lv (.ref y :: st) := fun H locs ls a1 a2 a3 a4 a5 => lv_astore_n C.1 C.2.1 d hi a5 (by rw [C.2.2.2.2.2.2.1]; exact hn) rfl (fun ls h => k H locs ls a1 a2 a3 a4 (lh.set1 h hok))
theorem v_astore (C : Cx x cc own nL rm) {i : Nat} {y : Nat} (d : decode cc pc = .ok (.astore i, 2)) (hn : i < nL) (hok : ok1 lv i = true) (k : V x g cells slots I J (pc + 2) (lv.set i (some (.ref y))) st) : V x g cells slots I J pc lv (.ref y :: st) := fun H locs ls a1 a2 a3 a4 a5 => lv_astore C.1 C.2.1 d a5 (by rw [C.2.2.2.2.2.2.1]; exact hn) rfl (fun ls h => k H locs ls a1 a2 a3 a4 (lh.set1 h hok))
theorem v_lstore_n (C : Cx x cc own nL rm) {q : Fin 4} (i : Nat) {y : Int64} (d : decode cc pc = .ok (.lstore_n q, 1)) (hi : (q : Nat) = i) (hn : i + 1 < nL) (hok : ok1 lv i = true) (k : V x g cells slots I J (pc + 1) ((lv.set i (some (.long y))).set (i + 1) none) st) : V x g cells slots I J pc lv (.long y :: st) := fun H locs ls a1 a2 a3 a4 a5 => lv_lstore_n C.1 C.2.1 d hi a5 (by rw [C.2.2.2.2.2.2.1]; exact hn) rfl (fun ls h => k H locs ls a1 a2 a3 a4 (lh.set2 h hok))
theorem v_lstore (C : Cx x cc own nL rm) {i : Nat} {y : Int64} (d : decode cc pc = .ok (.lstore i, 2)) (hn : i + 1 < nL) (hok : ok1 lv i = true) (k : V x g cells slots I J (pc + 2) ((lv.set i (some (.long y))).set (i + 1) none) st) : V x g cells slots I J pc lv (.long y :: st) := fun H locs ls a1 a2 a3 a4 a5 => lv_lstore C.1 C.2.1 d a5 (by rw [C.2.2.2.2.2.2.1]; exact hn) rfl (fun ls h => k H locs ls a1 a2 a3 a4 (lh.set2 h hok))
theorem v_iinc (C : Cx x cc own nL rm) {i : Nat} {n : Int} {y : Int32} (v : Int32) (d : decode cc pc = .ok (.iinc i n, 3)) (h : lv[i]? = some (some (.int y))) (hv : y + Int32.ofInt n = v) (hn : i < nL) (hok : ok1 lv i = true) (k : V x g cells slots I J (pc + 3) (lv.set i (some (.int v))) st) : V x g cells slots I J pc lv st := fun H locs ls a1 a2 a3 a4 a5 => by
  obtain ⟨j, hj⟩ := List.getElem?_of_mem (mem_prs.mpr h)
  exact lv_iinc C.1 C.2.1 d a5 hj hv (by rw [C.2.2.2.2.2.2.1]; exact hn) rfl (fun ls h => k H locs ls a1 a2 a3 a4 (lh.set1 h hok))
theorem v_iadd (C : Cx x cc own nL rm) {a b : Int32} (d : decode cc pc = .ok (.iadd, 1))  (k : V x g cells slots I J (pc + 1) lv (.int (a + b) :: st)) : V x g cells slots I J pc lv (.int b :: .int a :: st) := fun H locs ls a1 a2 a3 a4 a5 => lv_iadd C.1 C.2.1 d (k H locs ls a1 a2 a3 a4 a5)
theorem v_isub (C : Cx x cc own nL rm) {a b : Int32} (d : decode cc pc = .ok (.isub, 1))  (k : V x g cells slots I J (pc + 1) lv (.int (a - b) :: st)) : V x g cells slots I J pc lv (.int b :: .int a :: st) := fun H locs ls a1 a2 a3 a4 a5 => lv_isub C.1 C.2.1 d (k H locs ls a1 a2 a3 a4 a5)
theorem v_imul (C : Cx x cc own nL rm) {a b : Int32} (d : decode cc pc = .ok (.imul, 1))  (k : V x g cells slots I J (pc + 1) lv (.int (a * b) :: st)) : V x g cells slots I J pc lv (.int b :: .int a :: st) := fun H locs ls a1 a2 a3 a4 a5 => lv_imul C.1 C.2.1 d (k H locs ls a1 a2 a3 a4 a5)
theorem v_iand (C : Cx x cc own nL rm) {a b : Int32} (d : decode cc pc = .ok (.iand, 1))  (k : V x g cells slots I J (pc + 1) lv (.int (a &&& b) :: st)) : V x g cells slots I J pc lv (.int b :: .int a :: st) := fun H locs ls a1 a2 a3 a4 a5 => lv_iand C.1 C.2.1 d (k H locs ls a1 a2 a3 a4 a5)
theorem v_ior (C : Cx x cc own nL rm) {a b : Int32} (d : decode cc pc = .ok (.ior, 1))  (k : V x g cells slots I J (pc + 1) lv (.int (a ||| b) :: st)) : V x g cells slots I J pc lv (.int b :: .int a :: st) := fun H locs ls a1 a2 a3 a4 a5 => lv_ior C.1 C.2.1 d (k H locs ls a1 a2 a3 a4 a5)
theorem v_ixor (C : Cx x cc own nL rm) {a b : Int32} (d : decode cc pc = .ok (.ixor, 1))  (k : V x g cells slots I J (pc + 1) lv (.int (a ^^^ b) :: st)) : V x g cells slots I J pc lv (.int b :: .int a :: st) := fun H locs ls a1 a2 a3 a4 a5 => lv_ixor C.1 C.2.1 d (k H locs ls a1 a2 a3 a4 a5)
theorem v_ladd (C : Cx x cc own nL rm) {a b : Int64} (d : decode cc pc = .ok (.ladd, 1))  (k : V x g cells slots I J (pc + 1) lv (.long (a + b) :: st)) : V x g cells slots I J pc lv (.long b :: .long a :: st) := fun H locs ls a1 a2 a3 a4 a5 => lv_ladd C.1 C.2.1 d (k H locs ls a1 a2 a3 a4 a5)
theorem v_lsub (C : Cx x cc own nL rm) {a b : Int64} (d : decode cc pc = .ok (.lsub, 1))  (k : V x g cells slots I J (pc + 1) lv (.long (a - b) :: st)) : V x g cells slots I J pc lv (.long b :: .long a :: st) := fun H locs ls a1 a2 a3 a4 a5 => lv_lsub C.1 C.2.1 d (k H locs ls a1 a2 a3 a4 a5)
theorem v_lmul (C : Cx x cc own nL rm) {a b : Int64} (d : decode cc pc = .ok (.lmul, 1))  (k : V x g cells slots I J (pc + 1) lv (.long (a * b) :: st)) : V x g cells slots I J pc lv (.long b :: .long a :: st) := fun H locs ls a1 a2 a3 a4 a5 => lv_lmul C.1 C.2.1 d (k H locs ls a1 a2 a3 a4 a5)
theorem v_land (C : Cx x cc own nL rm) {a b : Int64} (d : decode cc pc = .ok (.land, 1))  (k : V x g cells slots I J (pc + 1) lv (.long (a &&& b) :: st)) : V x g cells slots I J pc lv (.long b :: .long a :: st) := fun H locs ls a1 a2 a3 a4 a5 => lv_land C.1 C.2.1 d (k H locs ls a1 a2 a3 a4 a5)
theorem v_lor (C : Cx x cc own nL rm) {a b : Int64} (d : decode cc pc = .ok (.lor, 1))  (k : V x g cells slots I J (pc + 1) lv (.long (a ||| b) :: st)) : V x g cells slots I J pc lv (.long b :: .long a :: st) := fun H locs ls a1 a2 a3 a4 a5 => lv_lor C.1 C.2.1 d (k H locs ls a1 a2 a3 a4 a5)
theorem v_lxor (C : Cx x cc own nL rm) {a b : Int64} (d : decode cc pc = .ok (.lxor, 1))  (k : V x g cells slots I J (pc + 1) lv (.long (a ^^^ b) :: st)) : V x g cells slots I J pc lv (.long b :: .long a :: st) := fun H locs ls a1 a2 a3 a4 a5 => lv_lxor C.1 C.2.1 d (k H locs ls a1 a2 a3 a4 a5)
theorem v_ishl (C : Cx x cc own nL rm) {a b : Int32} (d : decode cc pc = .ok (.ishl, 1))  (k : V x g cells slots I J (pc + 1) lv (.int (a <<< (b &&& 31)) :: st)) : V x g cells slots I J pc lv (.int b :: .int a :: st) := fun H locs ls a1 a2 a3 a4 a5 => lv_ishl C.1 C.2.1 d (k H locs ls a1 a2 a3 a4 a5)
theorem v_ishr (C : Cx x cc own nL rm) {a b : Int32} (d : decode cc pc = .ok (.ishr, 1))  (k : V x g cells slots I J (pc + 1) lv (.int (a >>> (b &&& 31)) :: st)) : V x g cells slots I J pc lv (.int b :: .int a :: st) := fun H locs ls a1 a2 a3 a4 a5 => lv_ishr C.1 C.2.1 d (k H locs ls a1 a2 a3 a4 a5)
theorem v_iushr (C : Cx x cc own nL rm) {a b : Int32} (d : decode cc pc = .ok (.iushr, 1))  (k : V x g cells slots I J (pc + 1) lv (.int ((a.toUInt32 >>> (b.toUInt32 &&& Int32.toUInt32 31)).toInt32) :: st)) : V x g cells slots I J pc lv (.int b :: .int a :: st) := fun H locs ls a1 a2 a3 a4 a5 => lv_iushr C.1 C.2.1 d rfl (k H locs ls a1 a2 a3 a4 a5)
theorem v_lushr (C : Cx x cc own nL rm) {a : Int64} {b : Int32} (d : decode cc pc = .ok (.lushr, 1))  (k : V x g cells slots I J (pc + 1) lv (.long ((a.toUInt64 >>> (b.toInt64.toUInt64 &&& Int64.toUInt64 63)).toInt64) :: st)) : V x g cells slots I J pc lv (.int b :: .long a :: st) := fun H locs ls a1 a2 a3 a4 a5 => lv_lushr C.1 C.2.1 d rfl (k H locs ls a1 a2 a3 a4 a5)
theorem v_lshl (C : Cx x cc own nL rm) {a : Int64} {b : Int32} (d : decode cc pc = .ok (.lshl, 1))  (k : V x g cells slots I J (pc + 1) lv (.long (a <<< (b.toInt64 &&& 63)) :: st)) : V x g cells slots I J pc lv (.int b :: .long a :: st) := fun H locs ls a1 a2 a3 a4 a5 => lv_lshl C.1 C.2.1 d rfl (k H locs ls a1 a2 a3 a4 a5)
theorem v_i2l (C : Cx x cc own nL rm) {a : Int32} (d : decode cc pc = .ok (.i2l, 1))  (k : V x g cells slots I J (pc + 1) lv (.long a.toInt64 :: st)) : V x g cells slots I J pc lv (.int a :: st) := fun H locs ls a1 a2 a3 a4 a5 => lv_i2l C.1 C.2.1 d rfl (k H locs ls a1 a2 a3 a4 a5)
theorem v_l2i (C : Cx x cc own nL rm) {a : Int64} (d : decode cc pc = .ok (.l2i, 1))  (k : V x g cells slots I J (pc + 1) lv (.int a.toInt32 :: st)) : V x g cells slots I J pc lv (.long a :: st) := fun H locs ls a1 a2 a3 a4 a5 => lv_l2i C.1 C.2.1 d rfl (k H locs ls a1 a2 a3 a4 a5)
theorem v_dup (C : Cx x cc own nL rm) {v : Value} (d : decode cc pc = .ok (.dup, 1)) (hv : v.category = 1) (k : V x g cells slots I J (pc + 1) lv (v :: v :: st)) : V x g cells slots I J pc lv (v :: st) := fun H locs ls a1 a2 a3 a4 a5 => lv_dup C.1 C.2.1 d hv (k H locs ls a1 a2 a3 a4 a5)
theorem v_pop (C : Cx x cc own nL rm) {v : Value} (d : decode cc pc = .ok (.pop, 1)) (hv : v.category = 1) (k : V x g cells slots I J (pc + 1) lv (st)) : V x g cells slots I J pc lv (v :: st) := fun H locs ls a1 a2 a3 a4 a5 => lv_pop C.1 C.2.1 d hv (k H locs ls a1 a2 a3 a4 a5)
theorem v_dup_x1 (C : Cx x cc own nL rm) {v w : Value} (d : decode cc pc = .ok (.dup_x1, 1)) (hv : v.category = 1) (hw : w.category = 1) (k : V x g cells slots I J (pc + 1) lv (v :: w :: v :: st)) : V x g cells slots I J pc lv (v :: w :: st) := fun H locs ls a1 a2 a3 a4 a5 => lv_dup_x1 C.1 C.2.1 d hv hw (k H locs ls a1 a2 a3 a4 a5)
theorem v_dup_x2 (C : Cx x cc own nL rm) {v w z : Value} (d : decode cc pc = .ok (.dup_x2, 1)) (hv : v.category = 1) (hw : w.category = 1) (hz : z.category = 1) (k : V x g cells slots I J (pc + 1) lv (v :: w :: z :: v :: st)) : V x g cells slots I J pc lv (v :: w :: z :: st) := fun H locs ls a1 a2 a3 a4 a5 => lv_dup_x2 C.1 C.2.1 d hv hw hz (k H locs ls a1 a2 a3 a4 a5)
theorem v_dup2_11 (C : Cx x cc own nL rm) {v w : Value} (d : decode cc pc = .ok (.dup2, 1)) (hv : v.category = 1) (hw : w.category = 1) (k : V x g cells slots I J (pc + 1) lv (v :: w :: v :: w :: st)) : V x g cells slots I J pc lv (v :: w :: st) := fun H locs ls a1 a2 a3 a4 a5 => lv_dup2_11 C.1 C.2.1 d hv hw (k H locs ls a1 a2 a3 a4 a5)
theorem v_dup2_2 (C : Cx x cc own nL rm) {v : Value} (d : decode cc pc = .ok (.dup2, 1)) (hv : v.category = 2) (k : V x g cells slots I J (pc + 1) lv (v :: v :: st)) : V x g cells slots I J pc lv (v :: st) := fun H locs ls a1 a2 a3 a4 a5 => lv_dup2_2 C.1 C.2.1 d hv (k H locs ls a1 a2 a3 a4 a5)
theorem v_goto (C : Cx x cc own nL rm) {off : Int} (tgt : Nat) (d : decode cc pc = .ok (.goto off, 3)) (ht : (pc : Int) + off = (tgt : Int)) (k : V x g cells slots I J tgt lv st) : V x g cells slots I J pc lv st := fun H locs ls a1 a2 a3 a4 a5 => lv_goto C.1 C.2.1 d ht (k H locs ls a1 a2 a3 a4 a5)
theorem v_if_eq (C : Cx x cc own nL rm) {a : Int32} {off : Int} (tgt : Nat) (d : decode cc pc = .ok (.ifCond .eq off, 3)) (ht : (pc : Int) + off = (tgt : Int)) (kt : a = 0 → V x g cells slots I J tgt lv st) (kf : ¬ a = 0 → V x g cells slots I J (pc + 3) lv st) : V x g cells slots I J pc lv (.int a :: st) := fun H locs ls a1 a2 a3 a4 a5 => lv_if_eq C.1 C.2.1 d ht (fun h => kt h H locs ls a1 a2 a3 a4 a5) (fun h => kf h H locs ls a1 a2 a3 a4 a5)
theorem v_if_ne (C : Cx x cc own nL rm) {a : Int32} {off : Int} (tgt : Nat) (d : decode cc pc = .ok (.ifCond .ne off, 3)) (ht : (pc : Int) + off = (tgt : Int)) (kt : ¬ a = 0 → V x g cells slots I J tgt lv st) (kf : a = 0 → V x g cells slots I J (pc + 3) lv st) : V x g cells slots I J pc lv (.int a :: st) := fun H locs ls a1 a2 a3 a4 a5 => lv_if_ne C.1 C.2.1 d ht (fun h => kt h H locs ls a1 a2 a3 a4 a5) (fun h => kf h H locs ls a1 a2 a3 a4 a5)
theorem v_if_lt (C : Cx x cc own nL rm) {a : Int32} {off : Int} (tgt : Nat) (d : decode cc pc = .ok (.ifCond .lt off, 3)) (ht : (pc : Int) + off = (tgt : Int)) (kt : a < 0 → V x g cells slots I J tgt lv st) (kf : ¬ a < 0 → V x g cells slots I J (pc + 3) lv st) : V x g cells slots I J pc lv (.int a :: st) := fun H locs ls a1 a2 a3 a4 a5 => lv_if_lt C.1 C.2.1 d ht (fun h => kt h H locs ls a1 a2 a3 a4 a5) (fun h => kf h H locs ls a1 a2 a3 a4 a5)
theorem v_if_ge (C : Cx x cc own nL rm) {a : Int32} {off : Int} (tgt : Nat) (d : decode cc pc = .ok (.ifCond .ge off, 3)) (ht : (pc : Int) + off = (tgt : Int)) (kt : 0 ≤ a → V x g cells slots I J tgt lv st) (kf : ¬ 0 ≤ a → V x g cells slots I J (pc + 3) lv st) : V x g cells slots I J pc lv (.int a :: st) := fun H locs ls a1 a2 a3 a4 a5 => lv_if_ge C.1 C.2.1 d ht (fun h => kt h H locs ls a1 a2 a3 a4 a5) (fun h => kf h H locs ls a1 a2 a3 a4 a5)
theorem v_if_gt (C : Cx x cc own nL rm) {a : Int32} {off : Int} (tgt : Nat) (d : decode cc pc = .ok (.ifCond .gt off, 3)) (ht : (pc : Int) + off = (tgt : Int)) (kt : 0 < a → V x g cells slots I J tgt lv st) (kf : ¬ 0 < a → V x g cells slots I J (pc + 3) lv st) : V x g cells slots I J pc lv (.int a :: st) := fun H locs ls a1 a2 a3 a4 a5 => lv_if_gt C.1 C.2.1 d ht (fun h => kt h H locs ls a1 a2 a3 a4 a5) (fun h => kf h H locs ls a1 a2 a3 a4 a5)
theorem v_if_le (C : Cx x cc own nL rm) {a : Int32} {off : Int} (tgt : Nat) (d : decode cc pc = .ok (.ifCond .le off, 3)) (ht : (pc : Int) + off = (tgt : Int)) (kt : a ≤ 0 → V x g cells slots I J tgt lv st) (kf : ¬ a ≤ 0 → V x g cells slots I J (pc + 3) lv st) : V x g cells slots I J pc lv (.int a :: st) := fun H locs ls a1 a2 a3 a4 a5 => lv_if_le C.1 C.2.1 d ht (fun h => kt h H locs ls a1 a2 a3 a4 a5) (fun h => kf h H locs ls a1 a2 a3 a4 a5)
theorem v_icmp_eq (C : Cx x cc own nL rm) {a b : Int32} {off : Int} (tgt : Nat) (d : decode cc pc = .ok (.if_icmp .eq off, 3)) (ht : (pc : Int) + off = (tgt : Int)) (kt : a = b → V x g cells slots I J tgt lv st) (kf : ¬ a = b → V x g cells slots I J (pc + 3) lv st) : V x g cells slots I J pc lv (.int b :: .int a :: st) := fun H locs ls a1 a2 a3 a4 a5 => lv_icmp_eq C.1 C.2.1 d ht (fun h => kt h H locs ls a1 a2 a3 a4 a5) (fun h => kf h H locs ls a1 a2 a3 a4 a5)
theorem v_icmp_ne (C : Cx x cc own nL rm) {a b : Int32} {off : Int} (tgt : Nat) (d : decode cc pc = .ok (.if_icmp .ne off, 3)) (ht : (pc : Int) + off = (tgt : Int)) (kt : ¬ a = b → V x g cells slots I J tgt lv st) (kf : a = b → V x g cells slots I J (pc + 3) lv st) : V x g cells slots I J pc lv (.int b :: .int a :: st) := fun H locs ls a1 a2 a3 a4 a5 => lv_icmp_ne C.1 C.2.1 d ht (fun h => kt h H locs ls a1 a2 a3 a4 a5) (fun h => kf h H locs ls a1 a2 a3 a4 a5)
theorem v_icmp_lt (C : Cx x cc own nL rm) {a b : Int32} {off : Int} (tgt : Nat) (d : decode cc pc = .ok (.if_icmp .lt off, 3)) (ht : (pc : Int) + off = (tgt : Int)) (kt : a < b → V x g cells slots I J tgt lv st) (kf : ¬ a < b → V x g cells slots I J (pc + 3) lv st) : V x g cells slots I J pc lv (.int b :: .int a :: st) := fun H locs ls a1 a2 a3 a4 a5 => lv_icmp_lt C.1 C.2.1 d ht (fun h => kt h H locs ls a1 a2 a3 a4 a5) (fun h => kf h H locs ls a1 a2 a3 a4 a5)
theorem v_icmp_ge (C : Cx x cc own nL rm) {a b : Int32} {off : Int} (tgt : Nat) (d : decode cc pc = .ok (.if_icmp .ge off, 3)) (ht : (pc : Int) + off = (tgt : Int)) (kt : b ≤ a → V x g cells slots I J tgt lv st) (kf : ¬ b ≤ a → V x g cells slots I J (pc + 3) lv st) : V x g cells slots I J pc lv (.int b :: .int a :: st) := fun H locs ls a1 a2 a3 a4 a5 => lv_icmp_ge C.1 C.2.1 d ht (fun h => kt h H locs ls a1 a2 a3 a4 a5) (fun h => kf h H locs ls a1 a2 a3 a4 a5)
theorem v_icmp_gt (C : Cx x cc own nL rm) {a b : Int32} {off : Int} (tgt : Nat) (d : decode cc pc = .ok (.if_icmp .gt off, 3)) (ht : (pc : Int) + off = (tgt : Int)) (kt : b < a → V x g cells slots I J tgt lv st) (kf : ¬ b < a → V x g cells slots I J (pc + 3) lv st) : V x g cells slots I J pc lv (.int b :: .int a :: st) := fun H locs ls a1 a2 a3 a4 a5 => lv_icmp_gt C.1 C.2.1 d ht (fun h => kt h H locs ls a1 a2 a3 a4 a5) (fun h => kf h H locs ls a1 a2 a3 a4 a5)
theorem v_icmp_le (C : Cx x cc own nL rm) {a b : Int32} {off : Int} (tgt : Nat) (d : decode cc pc = .ok (.if_icmp .le off, 3)) (ht : (pc : Int) + off = (tgt : Int)) (kt : a ≤ b → V x g cells slots I J tgt lv st) (kf : ¬ a ≤ b → V x g cells slots I J (pc + 3) lv st) : V x g cells slots I J pc lv (.int b :: .int a :: st) := fun H locs ls a1 a2 a3 a4 a5 => lv_icmp_le C.1 C.2.1 d ht (fun h => kt h H locs ls a1 a2 a3 a4 a5) (fun h => kf h H locs ls a1 a2 a3 a4 a5)
theorem v_ifnull (C : Cx x cc own nL rm) {off : Int} {a : Nat} (d : decode cc pc = .ok (.ifnull off, 3)) (k : V x g cells slots I J (pc + 3) lv st) : V x g cells slots I J pc lv (.ref a :: st) := fun H locs ls a1 a2 a3 a4 a5 => lv_ifnull C.1 C.2.1 d (k H locs ls a1 a2 a3 a4 a5)
theorem v_ifnonnull (C : Cx x cc own nL rm) {off : Int} {a : Nat} (tgt : Nat) (d : decode cc pc = .ok (.ifnonnull off, 3)) (ht : (pc : Int) + off = (tgt : Int)) (k : V x g cells slots I J tgt lv st) : V x g cells slots I J pc lv (.ref a :: st) := fun H locs ls a1 a2 a3 a4 a5 => lv_ifnonnull C.1 C.2.1 d ht (k H locs ls a1 a2 a3 a4 a5)
theorem v_ifnullN (C : Cx x cc own nL rm) {off : Int} (tgt : Nat) (d : decode cc pc = .ok (.ifnull off, 3)) (ht : (pc : Int) + off = (tgt : Int)) (k : V x g cells slots I J tgt lv st) : V x g cells slots I J pc lv (.null :: st) := fun H locs ls a1 a2 a3 a4 a5 => lv_ifnullN C.1 C.2.1 d ht (k H locs ls a1 a2 a3 a4 a5)
theorem v_ifnonnullN (C : Cx x cc own nL rm) {off : Int} (d : decode cc pc = .ok (.ifnonnull off, 3)) (k : V x g cells slots I J (pc + 3) lv st) : V x g cells slots I J pc lv (.null :: st) := fun H locs ls a1 a2 a3 a4 a5 => lv_ifnonnullN C.1 C.2.1 d (k H locs ls a1 a2 a3 a4 a5)
theorem v_lcmp (C : Cx x cc own nL rm) {a b : Int64} (d : decode cc pc = .ok (.lcmp, 1)) (k : V x g cells slots I J (pc + 1) lv (.int (lg_cmp a b) :: st)) : V x g cells slots I J pc lv (.long b :: .long a :: st) := fun H locs ls a1 a2 a3 a4 a5 => W.lcmp C.1 C.2.1 d (k H locs ls a1 a2 a3 a4 a5)
theorem v_ldc (C : Cx x cc own nL rm) {index : Nat} {v : Int32} (hw : Cond.constant own index v ∈ TB) (d : decode cc pc = .ok (.ldc index, 2)) (k : V x g cells slots I J (pc + 2) lv (.int v :: st)) : V x g cells slots I J pc lv st := fun H locs ls a1 a2 a3 a4 a5 => lv_ldc C.1 C.2.1 C.2.2.1 (C.tb hw) d (k H locs ls a1 a2 a3 a4 a5)
theorem v_ldc2 (C : Cx x cc own nL rm) {index : Nat} {v : Int64} (hw : Cond.constantLong own index v ∈ TB) (d : decode cc pc = .ok (.ldc2_w index, 3)) (k : V x g cells slots I J (pc + 3) lv (.long v :: st)) : V x g cells slots I J pc lv st := fun H locs ls a1 a2 a3 a4 a5 => lv_ldc2 C.1 C.2.1 C.2.2.1 (C.tb hw) d (k H locs ls a1 a2 a3 a4 a5)
theorem v_lookup (C : Cx x cc own nL rm) {dflt : Int} {ps : Array (Int × Int)} {len : Nat} {a : Int32} {off : Int} (tgt : Nat) (d : decode cc pc = .ok (.lookupswitch dflt ps, len)) (hp : (ps.toList.zip (ps.toList.drop 1)).all (fun (a, next) => a.1 < next.1) = true) (ho : Op.lookupswitch.offset ps.toList dflt a.toInt = off) (ht : (pc : Int) + off = (tgt : Int)) (k : V x g cells slots I J tgt lv st) : V x g cells slots I J pc lv (.int a :: st) := fun H locs ls a1 a2 a3 a4 a5 => lv_lookup C.1 C.2.1 d hp ho ht (k H locs ls a1 a2 a3 a4 a5)
theorem v_tableOut (C : Cx x cc own nL rm) {dflt lo hi : Int} {offs : Array Int} {len : Nat} {a : Int32} (tgt : Nat) (d : decode cc pc = .ok (.tableswitch dflt lo hi offs, len)) (h : a.toInt < lo ∨ hi < a.toInt) (ht : (pc : Int) + dflt = (tgt : Int)) (k : V x g cells slots I J tgt lv st) : V x g cells slots I J pc lv (.int a :: st) := fun H locs ls a1 a2 a3 a4 a5 => lv_tableOut C.1 C.2.1 d h ht (k H locs ls a1 a2 a3 a4 a5)
theorem v_tableIn (C : Cx x cc own nL rm) {dflt lo hi : Int} {offs : Array Int} {len : Nat} {a : Int32} {off : Int} (tgt : Nat) (d : decode cc pc = .ok (.tableswitch dflt lo hi offs, len)) (h1 : ¬ a.toInt < lo) (h2 : ¬ hi < a.toInt) (ho : offs[(a.toInt - lo).toNat]? = some off) (ht : (pc : Int) + off = (tgt : Int)) (k : V x g cells slots I J tgt lv st) : V x g cells slots I J pc lv (.int a :: st) := fun H locs ls a1 a2 a3 a4 a5 => lv_tableIn C.1 C.2.1 d h1 h2 ho ht (k H locs ls a1 a2 a3 a4 a5)
/-! fields -/
theorem v_get (C : Cx x cc own nL rm) {ci N n a k t idx : Nat} {Cn : String} {T : u_T} {ty : Nat → FieldType} (F : CF ci Cn T N ty) (hs : g.1 a = (ci, n)) (hk : (fkL ci)[k]? = some t) (hw : Cond.fieldLink own idx (T k).1 (T k).2.1 (T k).2.2.1 ∈ TB) (d : decode cc pc = .ok (.getfield idx, 3)) (kk : V x g cells slots I J (pc + 3) lv (fv g.2.1 I J a t k :: st)) : V x g cells slots I J pc lv (.ref a :: st) := fun H locs ls a1 a2 a3 a4 a5 => by
  obtain ⟨f1, f2, f3, f4, f5, f6⟩ := F
  have hkN : k < N := by rw [← f5]; exact (List.getElem?_eq_some_iff.mp hk).1
  have hE := a2 a (by rw [hs]; show ci ≠ 99; omega)
  rw [cE_o hs f6] at hE
  have hP : va_P (kD x) vcl [(a, .inr (ci, fvs (fkL ci) g.2.1 I J a))] H := fun q y hy => by
    have hq : q = 0 := by
      have := (List.getElem?_eq_some_iff.mp hy).1
      simp at this
      exact this
    subst hq
    cases hy
    exact hE
  exact va_get C.1 C.2.1 C.2.2.2.1 f2 C.2.2.1 C.2.2.2.2.1.1 hP 0 rfl f1 k hkN (C.tb hw) (fun _ h => h) (fvs_get hk _ _ _ _) d (kk H locs ls a1 a2 a3 a4 a5)
theorem v_geti (C : Cx x cc own nL rm) {ci N n a k idx : Nat} {Cn : String} {T : u_T} {ty : Nat → FieldType} (F : CF ci Cn T N ty) (hs : g.1 a = (ci, n)) (hk : (fkL ci)[k]? = some 0) (hw : Cond.fieldLink own idx (T k).1 (T k).2.1 (T k).2.2.1 ∈ TB) (d : decode cc pc = .ok (.getfield idx, 3)) (kk : V x g cells slots I J (pc + 3) lv (.int (I a k) :: st)) : V x g cells slots I J pc lv (.ref a :: st) := v_get C F hs hk hw d kk
theorem v_getl (C : Cx x cc own nL rm) {ci N n a k idx : Nat} {Cn : String} {T : u_T} {ty : Nat → FieldType} (F : CF ci Cn T N ty) (hs : g.1 a = (ci, n)) (hk : (fkL ci)[k]? = some 1) (hw : Cond.fieldLink own idx (T k).1 (T k).2.1 (T k).2.2.1 ∈ TB) (d : decode cc pc = .ok (.getfield idx, 3)) (kk : V x g cells slots I J (pc + 3) lv (.long (J a k) :: st)) : V x g cells slots I J pc lv (.ref a :: st) := v_get C F hs hk hw d kk
theorem v_getr (C : Cx x cc own nL rm) {ci N n a k idx b : Nat} {Cn : String} {T : u_T} {ty : Nat → FieldType} (F : CF ci Cn T N ty) (hs : g.1 a = (ci, n)) (hk : (fkL ci)[k]? = some 2) (hr : g.2.1 a k = some b) (hw : Cond.fieldLink own idx (T k).1 (T k).2.1 (T k).2.2.1 ∈ TB) (d : decode cc pc = .ok (.getfield idx, 3)) (kk : V x g cells slots I J (pc + 3) lv (.ref b :: st)) : V x g cells slots I J pc lv (.ref a :: st) := by
  refine v_get C F hs hk hw d ?_
  show V x g cells slots I J (pc + 3) lv (va_rf (g.2.1 a k) :: st)
  rw [hr]
  exact kk
theorem put_core (C : Cx x cc own nL rm) {ci N n a k t idx : Nat} {Cn : String} {T : u_T} {ty : Nat → FieldType} {v : Value} {I2 : MI} {J2 : MJ} {r2 : MR} (F : CF ci Cn T N ty) (hs : g.1 a = (ci, n)) (hk : (fkL ci)[k]? = some t) (hw : Cond.fieldLink own idx (T k).1 (T k).2.1 (T k).2.2.1 ∈ TB) (hfin : (T k).2.2.2 = false ∨ ((T k).2.2.2 = true ∧ (kme x).name = "<init>" ∧ (T k).1 = own)) (hv : v = fv r2 I2 J2 a t k) (hn : narrow (ty k) v = v) (hfit : fits (ty k) v = true)
    (hr1 : ∀ b, b ≠ a → r2 b = g.2.1 b) (hI1 : ∀ b, b ≠ a → I2 b = I b) (hJ1 : ∀ b, b ≠ a → J2 b = J b) (hr2 : ∀ j, j ≠ k → r2 a j = g.2.1 a j) (hI3 : ∀ j, j ≠ k → I2 a j = I a j) (hJ3 : ∀ j, j ≠ k → J2 a j = J a j)
    (d : decode cc pc = .ok (.putfield idx, 3)) (kk : V x (g.1, r2, g.2.2) cells slots I2 J2 (pc + 3) lv st) : V x g cells slots I J pc lv (v :: .ref a :: st) := fun H locs ls a1 a2 a3 a4 a5 => by
  obtain ⟨f1, f2, f3, f4, f5, f6⟩ := F
  have hkN : k < N := by rw [← f5]; exact (List.getElem?_eq_some_iff.mp hk).1
  have ha99 : (g.1 a).1 ≠ 99 := by rw [hs]; show ci ≠ 99; omega
  have hE := a2 a ha99
  rw [cE_o hs f6] at hE
  have hts := C.2.2.2.1
  have hK := C.2.2.2.2.1.1
  have hap := va_apart (own := own) hts f2 ty f3 f4 hK f1
  obtain ⟨r, h1, cell, q1, q2, q3, q4⟩ := hE
  have hr : r = (Cn, T, N) := Option.some.inj (h1.symm.trans f1)
  subst hr
  obtain ⟨hS, hfc, kC, hkC, hkind⟩ := hK.1 ci _ f1
  obtain ⟨cf, kf, fi, f, hi, hsl⟩ := hS k hkN
  have hlay := hts _ (f2 _ (u_in_lay hkN))
  have hst := (u_facts hfc hkC (u_lays hts f2 hkN) hi).1
  have hd : parseFieldDescriptor (T k).2.2.1 = some (ty k) := f3 k hkN
  have fin : ∀ (H' : Heap), H'[a]? = some (cell.setSlot ((kD x).2 ci k) v) → H'.size = H.size → (∀ q : Nat, q ≠ a → H'[q]? = H[q]?) → W (kp x) (kl x) (ke x) (kR x) (ks x) (km x) (kar x) (kbe x) (kme x) (kc x) H' (locs ++ [⟨a, (kD x).2 ci k⟩]) cells slots (kQ x) (F0 (km x) (pc + 3) ls st) := fun H' e1 e2 e3 => by
    refine kk H' _ ls (by rw [e2]; exact a1) (Wo.set a2 ?_ hr1 hI1 hJ1 e3) a3 (a4.put e2 e3 (a3 a ha99)) a5
    rw [cE_o hs f6, ← fvs_set hk hr2 hI3 hJ3, ← hv]
    exact ⟨_, f1, t_OB.to (V := updV (vp_V (fvs (fkL ci) g.2.1 I J a)) k v) ⟨_, e1, q2, q3, t_set q4 hap hkN v⟩ (fun j _ => vp_updV_set (by rw [fvs_len, f5]; exact hkN) v j)⟩
  rcases hfin with hfin | ⟨hfin, hin2, hdecl⟩
  · unfold u_lay at hlay
    rw [if_neg (by rw [hfin]; decide)] at hlay
    have h6 := u_store hfc hkC hkind hlay hi hd hn hfit
    refine W.putK C.1 C.2.1 (f := f) ⟨C.2.2.1, C.tb hw, ⟨_, _, _, hi⟩, hst⟩ (by rw [q2]; exact h6) q1 q3 (by rw [hsl]; exact k2_hasslot (q4 k hkN)) rfl rfl d fun H' e1 e2 e3 => ?_
    rw [hsl] at e1 ⊢
    exact fin H' e1 e2 e3
  · unfold u_lay at hlay
    rw [if_pos hfin] at hlay
    have hcf : (km x).cls = cf := by
      obtain ⟨_, _, c', _, _, _, -, -, hf', -, -, -, hown2, -⟩ := Cond.laysFinal_spec hlay
      have e1 : c' = cf := by have := hi.symm.trans hf'; simp at this; exact this.1.symm
      rw [hdecl] at hown2
      rw [← e1]; exact Option.some.inj (C.2.2.1.symm.trans hown2)
    have h6 := u_fits hfc hkC hkind (Or.inr hlay) hi hd hn hfit
    refine W.putFinK C.1 C.2.1 C.2.2.1 (C.tb hw) hi hst hcf hin2 (by rw [q2]; exact h6) q1 q3 (by rw [hsl]; exact k2_hasslot (q4 k hkN)) rfl rfl d fun H' e1 e2 e3 => ?_
    rw [hsl] at e1 ⊢
    exact fin H' e1 e2 e3
theorem v_puti (C : Cx x cc own nL rm) {ci N n a k idx : Nat} {Cn : String} {T : u_T} {ty : Nat → FieldType} {v : Int32} (F : CF ci Cn T N ty) (hs : g.1 a = (ci, n)) (hk : (fkL ci)[k]? = some 0) (hw : Cond.fieldLink own idx (T k).1 (T k).2.1 (T k).2.2.1 ∈ TB) (hfin : (T k).2.2.2 = false) (hn : narrow (ty k) (.int v) = .int v) (hfit : fits (ty k) (.int v) = true)
    (d : decode cc pc = .ok (.putfield idx, 3)) (kk : V x g cells slots (s2 I a k v) J (pc + 3) lv st) : V x g cells slots I J pc lv (.int v :: .ref a :: st) :=
  put_core C (r2 := g.2.1) (I2 := s2 I a k v) (J2 := J) F hs hk hw (Or.inl hfin) (by show Value.int v = .int _; rw [s2_self]) hn hfit (fun _ _ => rfl) (fun _ h => s2_off h) (fun _ _ => rfl) (fun _ _ => rfl) (fun _ h => s2_k h) (fun _ _ => rfl) d kk
theorem v_putl (C : Cx x cc own nL rm) {ci N n a k idx : Nat} {Cn : String} {T : u_T} {ty : Nat → FieldType} {v : Int64} (F : CF ci Cn T N ty) (hs : g.1 a = (ci, n)) (hk : (fkL ci)[k]? = some 1) (hw : Cond.fieldLink own idx (T k).1 (T k).2.1 (T k).2.2.1 ∈ TB) (hfin : (T k).2.2.2 = false) (hn : narrow (ty k) (.long v) = .long v) (hfit : fits (ty k) (.long v) = true)
    (d : decode cc pc = .ok (.putfield idx, 3)) (kk : V x g cells slots I (s2 J a k v) (pc + 3) lv st) : V x g cells slots I J pc lv (.long v :: .ref a :: st) :=
  put_core C (r2 := g.2.1) (I2 := I) (J2 := s2 J a k v) F hs hk hw (Or.inl hfin) (by show Value.long v = .long _; rw [s2_self]) hn hfit (fun _ _ => rfl) (fun _ _ => rfl) (fun _ h => s2_off h) (fun _ _ => rfl) (fun _ _ => rfl) (fun _ h => s2_k h) d kk
/-- a final reference, in the constructor -/
theorem v_putr (C : Cx x cc own nL rm) {ci N n a k idx b : Nat} {Cn : String} {T : u_T} {ty : Nat → FieldType} (F : CF ci Cn T N ty) (hs : g.1 a = (ci, n)) (hk : (fkL ci)[k]? = some 2) (hw : Cond.fieldLink own idx (T k).1 (T k).2.1 (T k).2.2.1 ∈ TB) (hfin : (T k).2.2.2 = true) (hin : (kme x).name = "<init>") (hdecl : (T k).1 = own) (hn : narrow (ty k) (.ref b) = .ref b) (hfit : fits (ty k) (.ref b) = true)
    (d : decode cc pc = .ok (.putfield idx, 3)) (kk : V x (g.1, s2 g.2.1 a k (some b), g.2.2) cells slots I J (pc + 3) lv st) : V x g cells slots I J pc lv (.ref b :: .ref a :: st) :=
  put_core C (r2 := s2 g.2.1 a k (some b)) (I2 := I) (J2 := J) F hs hk hw (Or.inr ⟨hfin, hin, hdecl⟩) (by show Value.ref b = va_rf _; rw [s2_self]; rfl) hn hfit (fun _ h => s2_off h) (fun _ _ => rfl) (fun _ _ => rfl) (fun _ h => s2_k h) (fun _ _ => rfl) (fun _ _ => rfl) d kk
/-! arrays -/
theorem one_P {D : va_G} {a : Nat} {E : va_E} {H : Heap} (h : va_at D vcl (a, E) H) : va_P D vcl [(a, E)] H := fun q y hy => by
  have hq : q = 0 := by
    have := (List.getElem?_eq_some_iff.mp hy).1
    simp at this
    exact this
  subst hq
  cases hy
  exact h
theorem sh_live {g : GM} {a c n : Nat} (h : g.1 a = (c, n)) (hc : c < 99) : (g.1 a).1 ≠ 99 := by rw [h]; show c ≠ 99; omega
theorem v_iald (C : Cx x cc own nL rm) {a n : Nat} {i : Int32} (hs : g.1 a = (10, n)) (hin : vp_in i n) (d : decode cc pc = .ok (.iaload, 1)) (kk : V x g cells slots I J (pc + 1) lv (.int (I a i.toNatClampNeg) :: st)) : V x g cells slots I J pc lv (.int i :: .ref a :: st) := fun H locs ls a1 a2 a3 a4 a5 => by
  have hE := a2 a (sh_live hs (by decide))
  rw [cE_i hs] at hE
  exact va_iald C.1 C.2.1 C.2.2.2.2.1.1 (one_P hE) 0 0 rfl rfl hin d (kk H locs ls a1 a2 a3 a4 a5)
theorem v_lald (C : Cx x cc own nL rm) {a n : Nat} {i : Int32} (hs : g.1 a = (11, n)) (hin : vp_in i n) (d : decode cc pc = .ok (.laload, 1)) (kk : V x g cells slots I J (pc + 1) lv (.long (J a i.toNatClampNeg) :: st)) : V x g cells slots I J pc lv (.int i :: .ref a :: st) := fun H locs ls a1 a2 a3 a4 a5 => by
  have hE := a2 a (sh_live hs (by decide))
  rw [cE_l hs] at hE
  exact va_lald C.1 C.2.1 C.2.2.2.2.1.1 (one_P hE) 0 1 rfl rfl hin d (kk H locs ls a1 a2 a3 a4 a5)
theorem v_zald (C : Cx x cc own nL rm) {a n : Nat} {i : Int32} (hs : g.1 a = (12, n)) (hin : vp_in i n) (d : decode cc pc = .ok (.baload, 1)) (kk : V x g cells slots I J (pc + 1) lv (.int (I a i.toNatClampNeg) :: st)) : V x g cells slots I J pc lv (.int i :: .ref a :: st) := fun H locs ls a1 a2 a3 a4 a5 => by
  have hE := a2 a (sh_live hs (by decide))
  rw [cE_z hs] at hE
  exact va_zald C.1 C.2.1 C.2.2.2.2.1.1 (one_P hE) 0 2 rfl rfl hin d (kk H locs ls a1 a2 a3 a4 a5)
theorem v_pald (C : Cx x cc own nL rm) {a n b : Nat} {i : Int32} (hs : g.1 a = (13, n)) (hin : vp_in i n) (hr : g.2.1 a i.toNatClampNeg = some b) (d : decode cc pc = .ok (.aaload, 1)) (kk : V x g cells slots I J (pc + 1) lv (.ref b :: st)) : V x g cells slots I J pc lv (.int i :: .ref a :: st) := fun H locs ls a1 a2 a3 a4 a5 => by
  have hE := a2 a (sh_live hs (by decide))
  rw [cE_p hs] at hE
  refine va_aldq C.1 C.2.1 C.2.2.2.2.1.1 (one_P hE) 0 3 rfl rfl hin d ?_
  rw [hr]
  exact kk H locs ls a1 a2 a3 a4 a5
theorem v_uald (C : Cx x cc own nL rm) {a n : Nat} {i : Int32} (hs : g.1 a = (14, n)) (hin : vp_in i n) (d : decode cc pc = .ok (.aaload, 1)) (kk : V x g cells slots I J (pc + 1) lv (va_rf (g.2.1 a i.toNatClampNeg) :: st)) : V x g cells slots I J pc lv (.int i :: .ref a :: st) := fun H locs ls a1 a2 a3 a4 a5 => by
  have hE := a2 a (sh_live hs (by decide))
  rw [cE_u hs] at hE
  exact va_aldq C.1 C.2.1 C.2.2.2.2.1.1 (one_P hE) 0 4 rfl rfl hin d (kk H locs ls a1 a2 a3 a4 a5)
theorem v_iast (C : Cx x cc own nL rm) {a n : Nat} {i v : Int32} (hs : g.1 a = (10, n)) (hin : vp_in i n) (d : decode cc pc = .ok (.iastore, 1)) (kk : V x g cells slots (s2 I a i.toNatClampNeg v) J (pc + 1) lv st) : V x g cells slots I J pc lv (.int v :: .int i :: .ref a :: st) := fun H locs ls a1 a2 a3 a4 a5 => by
  have hl := sh_live hs (by decide)
  have hE := a2 a hl
  rw [cE_i hs] at hE
  refine W.iast C.1 C.2.1 hE ((C.2.2.2.2.1.1.2 0 _ rfl).1 n (fun j => .int (I a j))) (fun q => by cases q) (by show ¬ (i < 0 ∨ (arrV _ _ _).slots.size ≤ _); rw [arrV_size]; exact hin) rfl rfl d fun H1 e z oq => ?_
  refine kk H1 _ ls (by rw [z]; exact a1) (Wo.set a2 ?_ (fun _ _ => rfl) (fun _ h => s2_off h) (fun _ _ => rfl) oq) a3 (a4.put z oq (a3 a hl)) a5
  rw [cE_i hs]
  show H1[a]? = some (vp_cell _ _)
  rw [e, vp_cell_i, vp_cell_i, arrV_store]
  congr 2
  funext q
  by_cases hq : q = i.toNatClampNeg
  · subst hq
    simp [updV, s2]
  · simp [updV, s2, hq]
theorem v_zast (C : Cx x cc own nL rm) {a n : Nat} {i v : Int32} (hs : g.1 a = (12, n)) (hin : vp_in i n) (hv : v = 0 ∨ v = 1) (d : decode cc pc = .ok (.bastore, 1)) (kk : V x g cells slots (s2 I a i.toNatClampNeg v) J (pc + 1) lv st) : V x g cells slots I J pc lv (.int v :: .int i :: .ref a :: st) := fun H locs ls a1 a2 a3 a4 a5 => by
  have hl := sh_live hs (by decide)
  have hE := a2 a hl
  rw [cE_z hs] at hE
  have hnv : narrow .boolean (.int v) = .int v := by rcases hv with rfl | rfl <;> rfl
  refine W.zast C.1 C.2.1 hE ((C.2.2.2.2.1.1.2 2 _ rfl).1 n (fun j => .int (I a j))) (fun q => by cases q) (by show ¬ (i < 0 ∨ (arrV _ _ _).slots.size ≤ _); rw [arrV_size]; exact hin) rfl rfl d fun H1 e z oq => ?_
  refine kk H1 _ ls (by rw [z]; exact a1) (Wo.set a2 ?_ (fun _ _ => rfl) (fun _ h => s2_off h) (fun _ _ => rfl) oq) a3 (a4.put z oq (a3 a hl)) a5
  rw [cE_z hs]
  show H1[a]? = some (vp_cell _ _)
  rw [e, hnv, vp_cell_i, vp_cell_i, arrV_store]
  congr 2
  funext q
  by_cases hq : q = i.toNatClampNeg
  · subst hq
    simp [updV, s2]
  · simp [updV, s2, hq]
theorem v_last (C : Cx x cc own nL rm) {a n : Nat} {i : Int32} {v : Int64} (hs : g.1 a = (11, n)) (hin : vp_in i n) (d : decode cc pc = .ok (.lastore, 1)) (kk : V x g cells slots I (s2 J a i.toNatClampNeg v) (pc + 1) lv st) : V x g cells slots I J pc lv (.long v :: .int i :: .ref a :: st) := fun H locs ls a1 a2 a3 a4 a5 => by
  have hl := sh_live hs (by decide)
  have hE := a2 a hl
  rw [cE_l hs] at hE
  refine W.last C.1 C.2.1 hE ((C.2.2.2.2.1.1.2 1 _ rfl).1 n (fun j => .long (J a j))) (fun q => by cases q) (by show ¬ (i < 0 ∨ (arrV _ _ _).slots.size ≤ _); rw [arrV_size]; exact hin) rfl rfl d fun H1 e z oq => ?_
  refine kk H1 _ ls (by rw [z]; exact a1) (Wo.set a2 ?_ (fun _ _ => rfl) (fun _ _ => rfl) (fun _ h => s2_off h) oq) a3 (a4.put z oq (a3 a hl)) a5
  rw [cE_l hs]
  show H1[a]? = some (vp_cell _ _)
  rw [e, vp_cell_l, vp_cell_l, arrV_store]
  congr 2
  funext q
  by_cases hq : q = i.toNatClampNeg
  · subst hq
    simp [updV, s2]
  · simp [updV, s2, hq]
theorem ast_core (C : Cx x cc own nL rm) {H : Heap} {a n b ci t N w : Nat} {i : Int32} {Cn : String} {T : u_T} {ty : Nat → FieldType} (F : CF ci Cn T N ty) (hE : va_at (kD x) vcl (a, .inl ((kD x).1 w, n, .inr (.inr (.inr (.inr (g.2.1 a)))))) H) (ht : (ktys (kD x))[t]? = some ((kD x).1 w, .object Cn)) (hl : (g.1 a).1 ≠ 99) (hcE : ∀ r2 : MR, cE (kD x) g.1 r2 I J a = .inl ((kD x).1 w, n, .inr (.inr (.inr (.inr (r2 a)))))) (hin : vp_in i n) (hb : g.1 b = (ci, 0)) (d : decode cc pc = .ok (.aastore, 1)) (kk : V x (g.1, s2 g.2.1 a i.toNatClampNeg (some b), g.2.2) cells slots I J (pc + 1) lv st) {locs : List Loc} {ls : Array Slot} (a1 : H.size = g.2.2) (a2 : Wo (kD x) g.1 g.2.1 I J H) (a3 : ∀ a : Nat, (g.1 a).1 ≠ 99 → kA x a) (a4 : va_S (kA x) (ks x).heap H locs) (a5 : lh ls (kn x) lv) : W (kp x) (kl x) (ke x) (kR x) (ks x) (km x) (kar x) (kbe x) (kme x) (kc x) H locs cells slots (kQ x) (F0 (km x) pc ls (.ref b :: .int i :: .ref a :: st)) := by
  obtain ⟨f1, f2, f3, f4, f5, f6⟩ := F
  have hK := C.2.2.2.2.1.1
  have hlt : i.toNatClampNeg < n := Nat.not_le.mp fun q => hin (Or.inr q)
  have h0 : ¬ i < 0 := fun q => hin (Or.inl q)
  have hB := a2 b (sh_live hb (by omega))
  rw [cE_o hb f6] at hB
  obtain ⟨r', hr', cellV, g1, g2, g3, -⟩ := hB
  have hcls := (hK.1 ci _ f1).2
  obtain ⟨kA1, comp, k1, k2, k3, -⟩ := (hK.2 t _ ht).2
  have hcomp : comp = (kD x).1 ci := Option.some.inj (k3.symm.trans hcls.1)
  subst hcomp
  obtain ⟨kC, hkC, -⟩ := hcls.2
  refine W.aast C.1 C.2.1 hE (fun q h => by cases h) (fun h => by cases h) k1 k2 rfl hkC ⟨h0, by show _ < (arrV _ _ _).slots.size; rw [arrV_size]; exact hlt⟩ g1 (fun q h => by rw [g3] at h; cases h) (by rw [g2]; exact hkC) (by rw [g2]; exact va_assign hcls) rfl rfl d fun H1 e z oq => ?_
  refine kk H1 _ ls (by rw [z]; exact a1) (Wo.set a2 ?_ (fun _ h => s2_off h) (fun _ _ => rfl) (fun _ _ => rfl) oq) a3 (a4.put z oq (a3 a hl)) a5
  rw [hcE]
  show H1[a]? = some (vp_cell _ _)
  rw [e, vp_cell_q, vp_cell_q, arrV_store]
  congr 2
  funext q
  by_cases hq : q = i.toNatClampNeg
  · subst hq
    simp [updV, s2, va_rf]
  · simp [updV, s2, hq]
theorem v_past (C : Cx x cc own nL rm) {a n b : Nat} {i : Int32} (hs : g.1 a = (13, n)) (hin : vp_in i n) (hb : g.1 b = (0, 0)) (d : decode cc pc = .ok (.aastore, 1)) (kk : V x (g.1, s2 g.2.1 a i.toNatClampNeg (some b), g.2.2) cells slots I J (pc + 1) lv st) : V x g cells slots I J pc lv (.ref b :: .int i :: .ref a :: st) := fun H locs ls a1 a2 a3 a4 a5 => by
  have hl := sh_live hs (by decide)
  have hE := a2 a hl
  rw [cE_p hs] at hE
  exact ast_core C cfOp hE (t := 3) rfl hl (fun r2 => cE_p hs) hin hb d kk a1 a2 a3 a4 a5
theorem v_uast (C : Cx x cc own nL rm) {a n b : Nat} {i : Int32} (hs : g.1 a = (14, n)) (hin : vp_in i n) (hb : g.1 b = (3, 0)) (d : decode cc pc = .ok (.aastore, 1)) (kk : V x (g.1, s2 g.2.1 a i.toNatClampNeg (some b), g.2.2) cells slots I J (pc + 1) lv st) : V x g cells slots I J pc lv (.ref b :: .int i :: .ref a :: st) := fun H locs ls a1 a2 a3 a4 a5 => by
  have hl := sh_live hs (by decide)
  have hE := a2 a hl
  rw [cE_u hs] at hE
  exact ast_core C cfSu hE (t := 4) rfl hl (fun r2 => cE_u hs) hin hb d kk a1 a2 a3 a4 a5
theorem v_ialen (C : Cx x cc own nL rm) {a n : Nat} (v : Int32) (hs : g.1 a = (10, n)) (hv : Int32.ofNat n = v) (d : decode cc pc = .ok (.arraylength, 1)) (kk : V x g cells slots I J (pc + 1) lv (.int v :: st)) : V x g cells slots I J pc lv (.ref a :: st) := fun H locs ls a1 a2 a3 a4 a5 => by
  have hE := a2 a (sh_live hs (by decide))
  rw [cE_i hs] at hE
  exact va_alen C.1 C.2.1 C.2.2.2.2.1.1 (one_P hE) 0 0 rfl rfl hv d (kk H locs ls a1 a2 a3 a4 a5)
/-! what is made -/
def g_sh (g : GM) (s : Nat × Nat) : GM := (fun b => if b = g.2.2 then s else g.1 b, fun b => if b = g.2.2 then (fun _ => none) else g.2.1 b, g.2.2 + 1)
def z_m {α : Type} (f : Nat → Nat → α) (a : Nat) (v : α) : Nat → Nat → α := fun b => if b = a then (fun _ => v) else f b
theorem g_live (C : Cx x cc own nL rm) {s : Nat × Nat} {H : Heap} {locs : List Loc} (a3 : ∀ a : Nat, (g.1 a).1 ≠ 99 → kA x a) (a4 : va_S (kA x) (ks x).heap H locs) (a1 : H.size = g.2.2) : ∀ a : Nat, ((g_sh g s).1 a).1 ≠ 99 → kA x a := by
  intro b hb
  by_cases hq : b = g.2.2
  · exact C.2.2.2.2.2.2.2.2.2 b (by rw [hq, ← a1]; exact a4.1)
  · refine a3 b ?_
    have h9 : (g_sh g s).1 b = g.1 b := if_neg hq
    rw [h9] at hb
    exact hb
theorem v_new (C : Cx x cc own nL rm) {ci N idx : Nat} {Cn : String} {T : u_T} {ty : Nat → FieldType} (F : CF ci Cn T N ty) (hd0 : ∀ k, k < N → defaultValue (ty k) = fv (fun _ _ => none) (fun _ _ => 0) (fun _ _ => 0) 0 ((fkL ci).getD k 0) k) (hc : Cond.classLink own idx Cn ∈ TB) (hi : Cond.instantiable Cn N ∈ TB) (hz : Cond.initialized Cn ∈ TB) (hcells : cells + 1 ≤ rm.cells) (hslots : slots + N ≤ rm.slots) (d : decode cc pc = .ok (.new idx, 3))
    (kk : V x (g_sh g (ci, 0)) (cells + 1) (slots + N) (z_m I g.2.2 0) (z_m J g.2.2 0) (pc + 3) lv (.ref g.2.2 :: st)) : V x g cells slots I J pc lv st := fun H locs ls a1 a2 a3 a4 a5 => by
  obtain ⟨f1, f2, f3, f4, f5, f6⟩ := F
  have hKn := C.2.2.2.2.1.1.1 ci _ f1
  have hR := C.2.2.2.2.2.2.2.1
  refine W.newcK C.1 C.2.1 C.2.2.1 (C.tb hc) (C.tb hi) (C.tb hz) rfl d (by rw [hR]; exact hcells) (by rw [hR]; exact hslots) hKn.2.1 a1 fun H1 kC hkC e1 z1 o1 => ?_
  have hz9 : g.2.2 = H.size := a1.symm
  refine kk H1 locs ls z1 ?_ (g_live C a3 a4 a1) ⟨Nat.le_trans a4.1 (by omega), fun y h1 h2 => (o1 y (by rw [hz9]; exact Nat.lt_of_lt_of_le h1 a4.1)).trans (a4.2.1 y h1 h2), a4.2.2⟩ a5
  refine Wo.push a2 a1 ?_ (fun b hb => if_neg hb) (fun b hb => if_neg hb) (fun b hb => if_neg hb) (fun b hb => if_neg hb) o1
  rw [cE_o (n := 0) (ci := ci) (if_pos rfl) f6]
  refine ⟨_, f1, (u_born ty C.2.2.2.1 f2 hKn hkC e1 f3).to fun j hj => ?_⟩
  rw [hd0 j hj]
  have hj2 : (fkL ci)[j]? = some ((fkL ci).getD j 0) := by
    rw [List.getD_eq_getElem?_getD, List.getElem?_eq_getElem (by rw [f5]; exact hj)]
    rfl
  have e9 : ∀ (r : MR) (I : MI) (J : MJ) (a : Nat), (fvs (fkL ci) r I J a).getD j Value.null = fv r I J a ((fkL ci).getD j 0) j := fun r I J a => by
    rw [List.getD_eq_getElem?_getD, fvs_get hj2]
    rfl
  refine Eq.trans ?_ (e9 _ _ _ _).symm
  unfold fv z_m g_sh
  split <;> simp
theorem newa_core (C : Cx x cc own nL rm) {at0 : ArrayType} {ty : FieldType} {t c N : Nat} {n : Int32} (hty : newarray.typeOf at0 = ty) (ht : (ktys (kD x))[t]? = some ((kD x).1 c, ty)) (hra : ∀ cA, va_RA (ks x) cA ty → (ks x).vm.findClass ("[" ++ ty.toString) = some cA) (hw : Cond.arrayClass ty ∈ TB) (hn : ¬ n < 0) (hN : n.toNatClampNeg = N) (hbytes : N * componentBytes ty ≤ 536870912) (hcells : cells + 1 ≤ rm.cells) (hslots : slots + N ≤ rm.slots) {k : Nat} {I2 : MI} {J2 : MJ} (hI : ∀ b, b ≠ g.2.2 → I2 b = I b) (hJ : ∀ b, b ≠ g.2.2 → J2 b = J b) (d : decode cc pc = .ok (.newarray at0, 2))
    (hcell : ∀ H1 : Heap, H1[g.2.2]? = some (arrV ((kD x).1 c) N (fun _ => defaultValue ty)) → va_at (kD x) vcl (g.2.2, cE (kD x) (g_sh g (k, N)).1 (g_sh g (k, N)).2.1 I2 J2 g.2.2) H1)
    (kk : V x (g_sh g (k, N)) (cells + 1) (slots + N) I2 J2 (pc + 2) lv (.ref g.2.2 :: st)) : V x g cells slots I J pc lv (.int n :: st) := fun H locs ls a1 a2 a3 a4 a5 => by
  subst hty
  have hR := C.2.2.2.2.2.2.2.1
  refine va_newaK C.1 C.2.1 (C.tb hw) rfl d rfl hn hN hbytes (by rw [hR]; exact hcells) (by rw [hR]; exact hslots) a1 fun H1 cA e1 z1 o1 hAr hNm => ?_
  have hcA : cA = (kD x).1 c := Option.some.inj (hNm.symm.trans (hra _ (C.2.2.2.2.1.1.2 t _ ht).2))
  subst hcA
  have hz9 : g.2.2 = H.size := a1.symm
  refine kk H1 locs ls z1 ?_ (g_live C a3 a4 a1) ⟨Nat.le_trans a4.1 (by omega), fun y h1 h2 => (o1 y (by rw [hz9]; exact Nat.lt_of_lt_of_le h1 a4.1)).trans (a4.2.1 y h1 h2), a4.2.2⟩ a5
  exact Wo.push a2 a1 (hcell H1 e1) (fun b hb => if_neg hb) (fun b hb => if_neg hb) hI hJ o1
theorem v_newi (C : Cx x cc own nL rm) (N : Nat) {n : Int32} (hn : ¬ n < 0) (hN : n.toNatClampNeg = N) (hbytes : N * componentBytes .int ≤ 536870912) (hcells : cells + 1 ≤ rm.cells) (hslots : slots + N ≤ rm.slots) (d : decode cc pc = .ok (.newarray .int, 2))
    (kk : V x (g_sh g (10, N)) (cells + 1) (slots + N) (z_m I g.2.2 0) J (pc + 2) lv (.ref g.2.2 :: st)) : V x g cells slots I J pc lv (.int n :: st) :=
  newa_core C (ty := .int) (t := 0) (c := 100) rfl rfl (fun cA h => h) w57 hn hN hbytes hcells hslots (fun b hb => if_neg hb) (fun _ _ => rfl) d (fun H1 e1 => by
    rw [cE_i (n := N) (if_pos rfl)]
    show H1[g.2.2]? = some (vp_cell _ _)
    rw [e1, vp_cell_i]
    congr 2
    funext q
    simp [z_m, defaultValue]) kk
theorem v_newl (C : Cx x cc own nL rm) (N : Nat) {n : Int32} (hn : ¬ n < 0) (hN : n.toNatClampNeg = N) (hbytes : N * componentBytes .long ≤ 536870912) (hcells : cells + 1 ≤ rm.cells) (hslots : slots + N ≤ rm.slots) (d : decode cc pc = .ok (.newarray .long, 2))
    (kk : V x (g_sh g (11, N)) (cells + 1) (slots + N) I (z_m J g.2.2 0) (pc + 2) lv (.ref g.2.2 :: st)) : V x g cells slots I J pc lv (.int n :: st) :=
  newa_core C (ty := .long) (t := 1) (c := 101) rfl rfl (fun cA h => h) w58 hn hN hbytes hcells hslots (fun _ _ => rfl) (fun b hb => if_neg hb) d (fun H1 e1 => by
    rw [cE_l (n := N) (if_pos rfl)]
    show H1[g.2.2]? = some (vp_cell _ _)
    rw [e1, vp_cell_l]
    congr 2
    funext q
    simp [z_m, defaultValue]) kk
theorem v_newz (C : Cx x cc own nL rm) (N : Nat) {n : Int32} (hn : ¬ n < 0) (hN : n.toNatClampNeg = N) (hbytes : N * componentBytes .boolean ≤ 536870912) (hcells : cells + 1 ≤ rm.cells) (hslots : slots + N ≤ rm.slots) (d : decode cc pc = .ok (.newarray .boolean, 2))
    (kk : V x (g_sh g (12, N)) (cells + 1) (slots + N) (z_m I g.2.2 0) J (pc + 2) lv (.ref g.2.2 :: st)) : V x g cells slots I J pc lv (.int n :: st) :=
  newa_core C (ty := .boolean) (t := 2) (c := 102) rfl rfl (fun cA h => h) w107 hn hN hbytes hcells hslots (fun b hb => if_neg hb) (fun _ _ => rfl) d (fun H1 e1 => by
    rw [cE_z (n := N) (if_pos rfl)]
    show H1[g.2.2]? = some (vp_cell _ _)
    rw [e1, vp_cell_i]
    congr 2
    funext q
    simp [z_m, defaultValue]) kk
theorem newq_core (C : Cx x cc own nL rm) {Cn : String} {t c N k idx : Nat} {n : Int32} (hao : va_AO Cn (ks x)) (ht : (ktys (kD x))[t]? = some ((kD x).1 c, .object Cn)) (hw : Cond.classLink own idx Cn ∈ TB) (hn : ¬ n < 0) (hN : n.toNatClampNeg = N) (hbytes : N * 4 ≤ 536870912) (hcells : cells + 1 ≤ rm.cells) (hslots : slots + N ≤ rm.slots) (d : decode cc pc = .ok (.anewarray idx, 3))
    (hcell : ∀ H1 : Heap, H1[g.2.2]? = some (arrV ((kD x).1 c) N (fun _ => .null)) → va_at (kD x) vcl (g.2.2, cE (kD x) (g_sh g (k, N)).1 (g_sh g (k, N)).2.1 I J g.2.2) H1)
    (kk : V x (g_sh g (k, N)) (cells + 1) (slots + N) I J (pc + 3) lv (.ref g.2.2 :: st)) : V x g cells slots I J pc lv (.int n :: st) := fun H locs ls a1 a2 a3 a4 a5 => by
  subst hN
  have hR := C.2.2.2.2.2.2.2.1
  refine W.anew C.1 C.2.1 C.2.2.1 (C.tb hw) (va_AO.use hao) rfl d rfl hn hbytes (by rw [hR]; exact hcells) (by rw [hR]; exact hslots) fun cA kA1 comp f1 f2 f3 f4 => ?_
  obtain ⟨kA2, comp2, k1, k2, k3, k4⟩ := (C.2.2.2.2.1.1.2 t _ ht).2
  have hcA : cA = (kD x).1 c := Option.some.inj (f1.symm.trans k4)
  subst hcA
  generalize hH1 : H.push ({ cls := (kD x).1 c, slots := Array.replicate n.toNatClampNeg .null, vm := .none } : Cell) = H1
  have hz9 : g.2.2 = H.size := a1.symm
  have z1 : H1.size = g.2.2 + 1 := by rw [← hH1, Array.size_push, hz9]
  have e1 : H1[g.2.2]? = some (arrV ((kD x).1 c) n.toNatClampNeg (fun _ => .null)) := by rw [hz9, ← hH1, Array.getElem?_push_size, ← arrV_new]
  have o1 : ∀ q : Nat, q < g.2.2 → H1[q]? = H[q]? := fun q hq => by rw [← hH1, Array.getElem?_push, if_neg (by rw [hz9] at hq; exact Nat.ne_of_lt hq)]
  have kk2 := kk H1 locs ls z1 (Wo.push a2 a1 (hcell H1 e1) (fun b hb => if_neg hb) (fun b hb => if_neg hb) (fun _ _ => rfl) (fun _ _ => rfl) o1) (g_live C a3 a4 a1) ⟨Nat.le_trans a4.1 (by omega), fun y h1 h2 => (o1 y (by rw [hz9]; exact Nat.lt_of_lt_of_le h1 a4.1)).trans (a4.2.1 y h1 h2), a4.2.2⟩ a5
  rw [hz9] at kk2
  exact kk2
theorem v_newp (C : Cx x cc own nL rm) (N : Nat) {n : Int32} {idx : Nat} (hw : Cond.classLink own idx "LinearHistories$Operation" ∈ TB) (hn : ¬ n < 0) (hN : n.toNatClampNeg = N) (hbytes : N * 4 ≤ 536870912) (hcells : cells + 1 ≤ rm.cells) (hslots : slots + N ≤ rm.slots) (d : decode cc pc = .ok (.anewarray idx, 3))
    (kk : V x (g_sh g (13, N)) (cells + 1) (slots + N) I J (pc + 3) lv (.ref g.2.2 :: st)) : V x g cells slots I J pc lv (.int n :: st) :=
  newq_core C (t := 3) (c := 103) C.2.2.2.2.1.2.1 rfl hw hn hN hbytes hcells hslots d (fun H1 e1 => by
    rw [cE_p (n := N) (if_pos rfl)]
    show H1[g.2.2]? = some (vp_cell _ _)
    rw [e1, vp_cell_q]
    congr 2
    funext q
    simp [g_sh, va_rf]) kk
theorem v_newu (C : Cx x cc own nL rm) (N : Nat) {n : Int32} {idx : Nat} (hw : Cond.classLink own idx "LinearHistories$Subject" ∈ TB) (hn : ¬ n < 0) (hN : n.toNatClampNeg = N) (hbytes : N * 4 ≤ 536870912) (hcells : cells + 1 ≤ rm.cells) (hslots : slots + N ≤ rm.slots) (d : decode cc pc = .ok (.anewarray idx, 3))
    (kk : V x (g_sh g (14, N)) (cells + 1) (slots + N) I J (pc + 3) lv (.ref g.2.2 :: st)) : V x g cells slots I J pc lv (.int n :: st) :=
  newq_core C (t := 4) (c := 104) C.2.2.2.2.1.2.2.1 rfl hw hn hN hbytes hcells hslots d (fun H1 e1 => by
    rw [cE_u (n := N) (if_pos rfl)]
    show H1[g.2.2]? = some (vp_cell _ _)
    rw [e1, vp_cell_q]
    congr 2
    funext q
    simp [g_sh, va_rf]) kk
end VR
