/-! numbers as Ints: np_i, np_l take any Int to the machine's int and long -/
abbrev np_S : Type := Nat → Int → Int
abbrev np_O : Type := Int × np_S
def np_i (x : Int) : Int32 := Int32.ofInt x
def np_l (x : Int) : Int64 := Int64.ofInt x
abbrev np_R (x : Int) : Prop := -2147483648 ≤ x ∧ x ≤ 2147483647
abbrev np_R6 (x : Int) : Prop := -9223372036854775808 ≤ x ∧ x ≤ 9223372036854775807
def np_ck {α : Type} (c : Prop) [Decidable c] (k : Option α) : Option α := if c then k else none
theorem np_ck_e {α : Type} {c : Prop} [Decidable c] {k : Option α} {o : α} (h : np_ck c k = some o) : c ∧ k = some o := by
  unfold np_ck at h
  split at h
  · exact ⟨by assumption, h⟩
  · cases h
theorem np_ck_i {α : Type} {c : Prop} [Decidable c] {k : Option α} (h : c) : np_ck c k = k := if_pos h
/-- the store with one place changed -/
def np_st (σ : np_S) (k : Nat) (j v : Int) : np_S := fun k2 => if k2 = k then (fun j2 => if j2 = j then v else σ k j2) else σ k2
theorem np_st_s (σ : np_S) (k : Nat) (j v : Int) : np_st σ k j v k j = v := by simp [np_st]
theorem np_st_n (σ : np_S) (k : Nat) {j j2 : Int} (v : Int) (h : j2 ≠ j) : np_st σ k j v k j2 = σ k j2 := by simp [np_st, h]
theorem np_st_k (σ : np_S) {k k2 : Nat} (j v : Int) (h : k2 ≠ k) : np_st σ k j v k2 = σ k2 := by simp [np_st, h]
def np_cmp (x y : Int) : Int := if y < x then 1 else if x = y then 0 else -1
def np_max (x y : Int) : Int := if x < y then y else x
def np_min (x y : Int) : Int := if y < x then y else x
def np_andi (x y : Int) : Int := (np_i x &&& np_i y).toInt
def np_ori (x y : Int) : Int := (np_i x ||| np_i y).toInt
def np_xori (x y : Int) : Int := (np_i x ^^^ np_i y).toInt
def np_shli (x y : Int) : Int := (np_i x <<< (np_i y &&& 31)).toInt
def np_shri (x y : Int) : Int := (np_i x >>> (np_i y &&& 31)).toInt
def np_ushri (x y : Int) : Int := ((np_i x).toUInt32 >>> ((np_i y).toUInt32 &&& Int32.toUInt32 31)).toInt32.toInt
def np_andl (x y : Int) : Int := (np_l x &&& np_l y).toInt
def np_orl (x y : Int) : Int := (np_l x ||| np_l y).toInt
def np_shll (x y : Int) : Int := (np_l x <<< ((np_i y).toInt64 &&& 63)).toInt
def np_shrl (x y : Int) : Int := (np_l x >>> ((np_i y).toInt64 &&& 63)).toInt
def np_ushrl (x y : Int) : Int := ((np_l x).toUInt64 >>> ((np_i y).toInt64.toUInt64 &&& Int64.toUInt64 63)).toInt64.toInt
theorem np_i_toInt (x : Int32) : np_i x.toInt = x := Int32.ofInt_toInt x
theorem np_l_toInt (x : Int64) : np_l x.toInt = x := Int64.ofInt_toInt x
theorem np_toInt {x : Int} (h : np_R x) : (np_i x).toInt = x := Int32.toInt_ofInt_of_le (by have := h.1; omega) (by have := h.2; omega)
theorem np_toInt6 {x : Int} (h : np_R6 x) : (np_l x).toInt = x := Int64.toInt_ofInt_of_le (by have := h.1; omega) (by have := h.2; omega)
theorem np_add (x y : Int) : np_i x + np_i y = np_i (x + y) := (Int32.ofInt_add x y).symm
theorem np_sub (x y : Int) : np_i x - np_i y = np_i (x - y) := (Int32.ofInt_sub x y).symm
theorem np_mul (x y : Int) : np_i x * np_i y = np_i (x * y) := (Int32.ofInt_mul x y).symm
theorem np_inc (x n : Int) : np_i x + Int32.ofInt n = np_i (x + n) := np_add x n
theorem np_addl (x y : Int) : np_l x + np_l y = np_l (x + y) := (Int64.ofInt_add x y).symm
theorem np_subl (x y : Int) : np_l x - np_l y = np_l (x - y) := (Int64.ofInt_sub x y).symm
theorem np_mull (x y : Int) : np_l x * np_l y = np_l (x * y) := (Int64.ofInt_mul x y).symm
theorem np_lt {x y : Int} (hx : np_R x) (hy : np_R y) : np_i x < np_i y ↔ x < y := by rw [Int32.lt_iff_toInt_lt, np_toInt hx, np_toInt hy]
theorem np_le {x y : Int} (hx : np_R x) (hy : np_R y) : np_i x ≤ np_i y ↔ x ≤ y := by rw [Int32.le_iff_toInt_le, np_toInt hx, np_toInt hy]
theorem np_eq {x y : Int} (hx : np_R x) (hy : np_R y) : np_i x = np_i y ↔ x = y := by rw [← Int32.toInt_inj, np_toInt hx, np_toInt hy]
theorem np_lt6 {x y : Int} (hx : np_R6 x) (hy : np_R6 y) : np_l x < np_l y ↔ x < y := by rw [Int64.lt_iff_toInt_lt, np_toInt6 hx, np_toInt6 hy]
theorem np_eq6 {x y : Int} (hx : np_R6 x) (hy : np_R6 y) : np_l x = np_l y ↔ x = y := by rw [← Int64.toInt_inj, np_toInt6 hx, np_toInt6 hy]
theorem np_0 : np_i 0 = 0 := rfl
theorem np_R0 : np_R 0 := by decide
theorem np_clamp {x : Int} (h0 : 0 ≤ x) (h : np_R x) : (np_i x).toNatClampNeg = x.toNat := by
  show (np_i x).toInt.toNat = x.toNat
  rw [np_toInt h]
theorem np_in {x : Int} {n : Nat} (h0 : 0 ≤ x) (h : x < n) (hn : n < 2147483648) : vp_in (np_i x) n := by
  have hR : np_R x := ⟨by omega, by omega⟩
  rw [vp_in_iff, np_toInt hR]
  exact ⟨h0, h⟩
theorem np_byte (x : Int) : (np_i x).toInt8.toInt32 = np_i (Int.bmod x 256) := by
  apply Int32.toInt_inj.mp
  have h1 : -128 ≤ Int.bmod x 256 := Int.le_bmod (by decide)
  have h2 : Int.bmod x 256 < 128 := Int.bmod_lt (by decide)
  rw [np_toInt ⟨by omega, by omega⟩]
  simp [np_i]
theorem np_nat (n : Nat) : np_i (n : Int) = nI n := by
  first | exact Int32.ofInt_eq_ofNat | rfl | simp [np_i, nI]
theorem np_char (x : Int) : ((np_i x).toUInt32 % 65536).toInt32 = np_i (x % 65536) := by
  rw [pk_char]
  have h : (np_i x).toBitVec.toNat % 65536 = (x % 65536).toNat := by
    simp only [np_i, Int32.toBitVec_ofInt, BitVec.toNat_ofInt]
    omega
  rw [h, ← np_nat, Int.toNat_of_nonneg (Int.emod_nonneg x (by decide))]
theorem np_l2i_e (x : Int) : (np_l x).toInt32 = np_i x := by
  simp [np_l, np_i]
theorem np_i2l_e {x : Int} (h : np_R x) : (np_i x).toInt64 = np_l x := by
  apply Int64.toInt_inj.mp
  rw [Int32.toInt_toInt64, np_toInt h, np_toInt6 ⟨by have := h.1; omega, by have := h.2; omega⟩]
theorem np_narI0 : True := trivial
theorem np_narI (x : Int) : narrow .int (.int (np_i x)) = .int (np_i x) := rfl
theorem np_fitI (x : Int) : fits .int (.int (np_i x)) = true := rfl
/-- what the heap holds from the start and nobody writes: the String constants of Spelling.kindOf -/
def np_sl : List Nat := [19, 8]
def np_sb : List (List Int32) := [[33, 35, 36, 37, 38, 42, 43, 45, 46, 47, 58, 60, 61, 62, 63, 64, 94, 124, 126], [40, 41, 91, 93, 123, 125, 44, 59]]
/-- a static field that holds a reference or null, in a cell that nobody writes -/
def np_Z (O f d : String) (A : Nat → Prop) (U : State) (H : Heap) : Prop := ∃ (c : ClassId) (k : Class) (i : Nat) (fd : Field) (a : Nat) (cell : Cell) (v : Value), U.vm.findClass O = some c ∧ U.fieldFound? O f d = some (c, k, i, fd) ∧ fd.isStatic = true ∧ k.statics = some a ∧ H[a]? = some cell ∧ cell.vm.isStatics = true ∧ cell.cls = c ∧ fd.slot < cell.slots.size ∧ k.staticTypes[fd.slot]? = some fd.type ∧ cell.slots[fd.slot]? = some v ∧ v.isRef = true ∧ ¬ A a
theorem np_Z.moved {O f d : String} {A : Nat → Prop} {u U : State} {H : Heap} (hvm : u.vm.Alike U.vm) (h : np_Z O f d A u H) : np_Z O f d A U H := by
  obtain ⟨c, k, i, fd, a, cell, v, h0, h1, h2, h3, h4, h5, h6, h7, h8, h9⟩ := h
  obtain ⟨k', hi', he⟩ := State.fieldFound?_setVm hvm h1
  exact ⟨c, k', i, fd, a, cell, v, by rw [hvm.findClass]; exact h0, hi', h2, by rw [he]; exact h3, h4, h5, h6, h7, by rw [he]; exact h8, h9⟩
theorem np_Z.kept {O f d : String} {A : Nat → Prop} {U : State} {H H1 : Heap} (h : np_Z O f d A U H) (hq : ∀ a : Nat, a < H.size → ¬ A a → H1[a]? = H[a]?) : np_Z O f d A U H1 := by
  obtain ⟨c, k, i, fd, a, cell, v, h0, h1, h2, h3, h4, h5, h6, h7, h8, h9, h10, h11⟩ := h
  exact ⟨c, k, i, fd, a, cell, v, h0, h1, h2, h3, by rw [hq a (Array.getElem?_eq_some_iff.mp h4).1 h11]; exact h4, h5, h6, h7, h8, h9, h10, h11⟩
theorem np_Z.narrow {O f d : String} {A B : Nat → Prop} {U : State} {H : Heap} (h : np_Z O f d A U H) (hAB : ∀ q, B q → A q) : np_Z O f d B U H := by
  obtain ⟨c, k, i, fd, a, cell, v, h0, h1, h2, h3, h4, h5, h6, h7, h8, h9, h10, h11⟩ := h
  exact ⟨c, k, i, fd, a, cell, v, h0, h1, h2, h3, h4, h5, h6, h7, h8, h9, h10, fun z => h11 (hAB a z)⟩
theorem np_Z.lays {O f d : String} {A : Nat → Prop} {U : State} {args : Array Value} (h : np_Z O f d A U U.heap) : (Cond.laysStatic O f d).before args U = true := by
  obtain ⟨c, k, i, fd, a, cell, v, h0, h1, h2, h3, h4, h5, h6, h7, h8, h9, h10, h11⟩ := h
  simp [Cond.before, Cond.holds, Cond.value, h0, h1, h2, h3, h4, h5, h6, h7, h8]
theorem np_Z.isRef {O f d : String} {A : Nat → Prop} {U : State} {args : Array Value} (h : np_Z O f d A U U.heap) : (Cond.isRef (.static O f d)).before args U = true := by
  obtain ⟨c, k, i, fd, a, cell, v, h0, h1, h2, h3, h4, h5, h6, h7, h8, h9, h10, h11⟩ := h
  have e : (Term.static O f d).eval args U none [] U = some v := by
    simp [Term.eval, State.fieldNamed?, h1, h2, h3, h4, h5, h9]
  cases v <;> simp [Value.isRef] at h10 <;> simp [Cond.before, Cond.holds, Cond.value, e]
/-- the texts of the class's own exceptions, by their entries -/
def np_msgs : List (Nat × String) := [(57, "a hole's level is 0 to 10"), (66, "a hole stands just ahead"), (73, "there are 6 parts in hand"), (88, "it is no word"), (98, "( and ) are no words of notations"), (106, "a level is 0 to 9 and one part is a word"), (111, "there are 12 notations"), (133, "the text has a fault"), (171, "no such node"), (188, "there is no tree")]
/-- words on exceptions' classes that calls don't carry by themselves -/
def np_cw : List Cond := [.castable "java/lang/IllegalArgumentException" "java/lang/IllegalArgumentException", .castable "java/lang/IllegalStateException" "java/lang/IllegalStateException", .castable "java/util/NoSuchElementException" "java/util/NoSuchElementException", .declares ⟨"java/lang/RuntimeException", "<init>", "(Ljava/lang/String;)V"⟩, .declares ⟨"java/lang/Exception", "<init>", "(Ljava/lang/String;)V"⟩, .declares ⟨"java/lang/Throwable", "<init>", "(Ljava/lang/String;)V"⟩, .not (.castable "java/lang/IllegalStateException" "java/lang/IllegalArgumentException")]
theorem np_cw_moved {u U : State} (hvm : u.vm.Alike U.vm) : ∀ w ∈ np_cw, w.before #[] u = true → w.before #[] U = true := by
  have hc : ∀ a b, (Cond.castable a b).before #[] U = (Cond.castable a b).before #[] u := by
    intro a b
    simp only [Cond.before, Cond.holds, Cond.value, hvm.findClass, hvm.assignable]
  have hn : ∀ a b, (Cond.not (Cond.castable a b)).before #[] U = (Cond.not (Cond.castable a b)).before #[] u := by
    intro a b
    simp only [Cond.before, Cond.holds, Cond.value, hvm.findClass, hvm.assignable]
  have hd : ∀ x, (Cond.declares x).before #[] U = (Cond.declares x).before #[] u := by
    intro x
    have h1 := Cond.declares_setVm (args := #[]) (s := u) hvm x
    have e := Cond.onTables_vm (A := #[]) (A' := #[]) (U := u) (U' := U) U.vm (Cond.declares x) rfl
    have hU : U.setVm U.vm = U := rfl
    rw [hU] at e
    rw [← e]
    exact h1
  intro w hw h
  simp only [np_cw, List.mem_cons, List.not_mem_nil, or_false] at hw
  rcases hw with rfl | rfl | rfl | rfl | rfl | rfl | rfl <;> first | (rw [hc]; exact h) | (rw [hd]; exact h) | (rw [hn]; exact h)
def np_E (gA : Nat → Nat) (A : Nat → Prop) (U : State) (H : Heap) : Prop :=
  vk_S 2 np_sl np_sb gA (fun i => gA (100 + i)) A U H ∧ vk_R "NotationParse$Spelling" 11 "!#$%&*+-./:<=>?@^|~" (gA 0) U ∧ vk_R "NotationParse$Spelling" 19 "()[]{},;" (gA 1) U ∧ va_Z "java/lang/String" "COMPACT_STRINGS" "Z" (.int 1) A U H ∧
  np_Z "java/lang/Throwable" "UNASSIGNED_STACK" "[Ljava/lang/StackTraceElement;" A U H ∧ np_Z "java/lang/Throwable" "SUPPRESSED_SENTINEL" "Ljava/util/List;" A U H ∧ (∀ q ∈ np_msgs, vk_R "NotationParse" q.1 q.2 (gA (200 + q.1)) U) ∧ ∀ w ∈ np_cw, w.before #[] U = true
/-- byte j of String constant i -/
def np_kb (i : Nat) (j : Int) : Int := ((np_sb.getD i []).getD j.toNat 0).toInt
theorem np_E.warm {gA : Nat → Nat} {A : Nat → Prop} {s U : State} {H : Heap} (hW : s.WarmedH U.vm) (h : np_E gA A s H) : np_E gA A U H := ⟨vk_S.moved hW.alike h.1, h.2.1.warm hW, h.2.2.1.warm hW, h.2.2.2.1.moved hW.alike, h.2.2.2.2.1.moved hW.alike, h.2.2.2.2.2.1.moved hW.alike, fun q hq => (h.2.2.2.2.2.2.1 q hq).warm hW, fun w hw => np_cw_moved hW.alike w hw (h.2.2.2.2.2.2.2 w hw)⟩
theorem np_E.same {gA : Nat → Nat} {A : Nat → Prop} {u U : State} {H : Heap} (hv : U.vm = u.vm) (h : np_E gA A u H) : np_E gA A U H := by
  have hal : u.vm.Alike U.vm := by rw [hv]; exact Vm.Alike.refl _
  exact ⟨vk_S.moved hal h.1, h.2.1.same hv, h.2.2.1.same hv, h.2.2.2.1.moved hal, h.2.2.2.2.1.moved hal, h.2.2.2.2.2.1.moved hal, fun q hq => (h.2.2.2.2.2.2.1 q hq).same hv, fun w hw => np_cw_moved hal w hw (h.2.2.2.2.2.2.2 w hw)⟩
theorem np_E.kept {gA : Nat → Nat} {A : Nat → Prop} {U : State} {H H1 : Heap} (h : np_E gA A U H) (hq : ∀ a : Nat, a < H.size → ¬ A a → H1[a]? = H[a]?) : np_E gA A U H1 := ⟨h.1.kept hq, h.2.1, h.2.2.1, h.2.2.2.1.kept hq, h.2.2.2.2.1.kept hq, h.2.2.2.2.2.1.kept hq, h.2.2.2.2.2.2⟩
theorem np_E.narrow {gA : Nat → Nat} {A B : Nat → Prop} {U : State} {H : Heap} (h : np_E gA A U H) (hAB : ∀ q, B q → A q) : np_E gA B U H := ⟨h.1.narrow hAB, h.2.1, h.2.2.1, h.2.2.2.1.narrow hAB, h.2.2.2.2.1.narrow hAB, h.2.2.2.2.2.1.narrow hAB, h.2.2.2.2.2.2⟩
/-- what holds all through a method -/
def np_Cx (gA : Nat → Nat) (p : Program) (R : Room) (s : State) (m : MethodId) (args : Array Value) (c : Code) (D : va_G) (cl : List vw_C) (tys : List (ClassId × FieldType)) (A : Nat → Prop) (Ts : List Cond) (own : String) (cc : ByteArray) (nL : Nat) (rm : Room) : Prop :=
  (p.tables.exec = Jvm.exec ∧ c.code = cc ∧ c.maxLocals = nL ∧ s.vm.findClass own = some m.cls ∧ ∀ w ∈ Ts, w.before args s = true) ∧ va_K D cl tys s ∧ (∀ a, s.heap.size ≤ a → A a) ∧ R = rm ∧ np_E gA A s s.heap ∧ ∀ (a : Nat) (cell : Cell), A a → s.heap[a]? = some cell → cell.vm.isStatics = false
/-- the world: the store σ lies in the heap -/
def np_At (D : va_G) (cl : List vw_C) (A : Nat → Prop) (wd : np_S → va_W) (s : State) (σ : np_S) (H : Heap) (locs : List Loc) : Prop :=
  va_P D cl (wd σ) H ∧ va_D A (wd σ) ∧ va_S A s.heap H locs
abbrev np_ty (cA : Nat → ClassId) : List (ClassId × FieldType) := [(cA 0, .int), (cA 1, .long), (cA 2, .byte), (cA 3, .boolean)]
section NPR
variable {p : Program} {l : Launch} {e : Env} {R : Room} {s : State} {m : MethodId} {args : Array Value} {below : List Frame} {meth : Method} {c : Code} {H : Heap} {locs : List Loc} {cells slots : Nat} {Q : State → Prop}
variable {cc : ByteArray} {pc : Nat} {ls : Array Slot} {rest : List Value} {D : va_G} {cl : List vw_C} {tys : List (ClassId × FieldType)} {A : Nat → Prop} {Ts : List Cond} {own : String} {nL : Nat} {rm : Room} {wd : np_S → va_W} {σ : np_S} {gA : Nat → Nat}
theorem np_Cx.x (C : np_Cx gA p R s m args c D cl tys A Ts own cc nL rm) : p.tables.exec = Jvm.exec := C.1.1
theorem np_Cx.b (C : np_Cx gA p R s m args c D cl tys A Ts own cc nL rm) : c.code = cc := C.1.2.1
theorem np_Cx.ml (C : np_Cx gA p R s m args c D cl tys A Ts own cc nL rm) : c.maxLocals = nL := C.1.2.2.1
theorem np_Cx.o (C : np_Cx gA p R s m args c D cl tys A Ts own cc nL rm) : s.vm.findClass own = some m.cls := C.1.2.2.2.1
theorem np_Cx.t (C : np_Cx gA p R s m args c D cl tys A Ts own cc nL rm) : ∀ w ∈ Ts, w.before args s = true := C.1.2.2.2.2
theorem np_Cx.k (C : np_Cx gA p R s m args c D cl tys A Ts own cc nL rm) : va_K D cl tys s := C.2.1
theorem np_Cx.a (C : np_Cx gA p R s m args c D cl tys A Ts own cc nL rm) : ∀ a, s.heap.size ≤ a → A a := C.2.2.1
theorem np_Cx.r (C : np_Cx gA p R s m args c D cl tys A Ts own cc nL rm) : R = rm := C.2.2.2.1
theorem np_Cx.en (C : np_Cx gA p R s m args c D cl tys A Ts own cc nL rm) : np_E gA A s s.heap := C.2.2.2.2.1
theorem np_Cx.ns (C : np_Cx gA p R s m args c D cl tys A Ts own cc nL rm) : ∀ (a : Nat) (cell : Cell), A a → s.heap[a]? = some cell → cell.vm.isStatics = false := C.2.2.2.2.2
theorem np_iadd (C : np_Cx gA p R s m args c D cl tys A Ts own cc nL rm) {x y : Int} (hdg : decode cc pc = .ok (.iadd, 1)) (k : W p l e R s m args below meth c H locs cells slots Q (F0 m (pc + 1) ls (.int (np_i (x + y)) :: rest))) : W p l e R s m args below meth c H locs cells slots Q (F0 m pc ls (.int (np_i y) :: .int (np_i x) :: rest)) := lv_iadd C.x C.b hdg (by rw [np_add]; exact k)
theorem np_isub (C : np_Cx gA p R s m args c D cl tys A Ts own cc nL rm) {x y : Int} (hdg : decode cc pc = .ok (.isub, 1)) (k : W p l e R s m args below meth c H locs cells slots Q (F0 m (pc + 1) ls (.int (np_i (x - y)) :: rest))) : W p l e R s m args below meth c H locs cells slots Q (F0 m pc ls (.int (np_i y) :: .int (np_i x) :: rest)) := lv_isub C.x C.b hdg (by rw [np_sub]; exact k)
theorem np_imul (C : np_Cx gA p R s m args c D cl tys A Ts own cc nL rm) {x y : Int} (hdg : decode cc pc = .ok (.imul, 1)) (k : W p l e R s m args below meth c H locs cells slots Q (F0 m (pc + 1) ls (.int (np_i (x * y)) :: rest))) : W p l e R s m args below meth c H locs cells slots Q (F0 m pc ls (.int (np_i y) :: .int (np_i x) :: rest)) := lv_imul C.x C.b hdg (by rw [np_mul]; exact k)
theorem np_ladd (C : np_Cx gA p R s m args c D cl tys A Ts own cc nL rm) {x y : Int} (hdg : decode cc pc = .ok (.ladd, 1)) (k : W p l e R s m args below meth c H locs cells slots Q (F0 m (pc + 1) ls (.long (np_l (x + y)) :: rest))) : W p l e R s m args below meth c H locs cells slots Q (F0 m pc ls (.long (np_l y) :: .long (np_l x) :: rest)) := lv_ladd C.x C.b hdg (by rw [np_addl]; exact k)
theorem np_lsub (C : np_Cx gA p R s m args c D cl tys A Ts own cc nL rm) {x y : Int} (hdg : decode cc pc = .ok (.lsub, 1)) (k : W p l e R s m args below meth c H locs cells slots Q (F0 m (pc + 1) ls (.long (np_l (x - y)) :: rest))) : W p l e R s m args below meth c H locs cells slots Q (F0 m pc ls (.long (np_l y) :: .long (np_l x) :: rest)) := lv_lsub C.x C.b hdg (by rw [np_subl]; exact k)
theorem np_lmul (C : np_Cx gA p R s m args c D cl tys A Ts own cc nL rm) {x y : Int} (hdg : decode cc pc = .ok (.lmul, 1)) (k : W p l e R s m args below meth c H locs cells slots Q (F0 m (pc + 1) ls (.long (np_l (x * y)) :: rest))) : W p l e R s m args below meth c H locs cells slots Q (F0 m pc ls (.long (np_l y) :: .long (np_l x) :: rest)) := lv_lmul C.x C.b hdg (by rw [np_mull]; exact k)
theorem np_iand (C : np_Cx gA p R s m args c D cl tys A Ts own cc nL rm) {x y : Int} (hdg : decode cc pc = .ok (.iand, 1)) (k : W p l e R s m args below meth c H locs cells slots Q (F0 m (pc + 1) ls (.int (np_i (np_andi x y)) :: rest))) : W p l e R s m args below meth c H locs cells slots Q (F0 m pc ls (.int (np_i y) :: .int (np_i x) :: rest)) := lv_iand C.x C.b hdg (by unfold np_andi at k; rw [np_i_toInt] at k; exact k)
theorem np_ior (C : np_Cx gA p R s m args c D cl tys A Ts own cc nL rm) {x y : Int} (hdg : decode cc pc = .ok (.ior, 1)) (k : W p l e R s m args below meth c H locs cells slots Q (F0 m (pc + 1) ls (.int (np_i (np_ori x y)) :: rest))) : W p l e R s m args below meth c H locs cells slots Q (F0 m pc ls (.int (np_i y) :: .int (np_i x) :: rest)) := lv_ior C.x C.b hdg (by unfold np_ori at k; rw [np_i_toInt] at k; exact k)
theorem np_ixor (C : np_Cx gA p R s m args c D cl tys A Ts own cc nL rm) {x y : Int} (hdg : decode cc pc = .ok (.ixor, 1)) (k : W p l e R s m args below meth c H locs cells slots Q (F0 m (pc + 1) ls (.int (np_i (np_xori x y)) :: rest))) : W p l e R s m args below meth c H locs cells slots Q (F0 m pc ls (.int (np_i y) :: .int (np_i x) :: rest)) := lv_ixor C.x C.b hdg (by unfold np_xori at k; rw [np_i_toInt] at k; exact k)
theorem np_ishl (C : np_Cx gA p R s m args c D cl tys A Ts own cc nL rm) {x y : Int} (hdg : decode cc pc = .ok (.ishl, 1)) (k : W p l e R s m args below meth c H locs cells slots Q (F0 m (pc + 1) ls (.int (np_i (np_shli x y)) :: rest))) : W p l e R s m args below meth c H locs cells slots Q (F0 m pc ls (.int (np_i y) :: .int (np_i x) :: rest)) := lv_ishl C.x C.b hdg (by unfold np_shli at k; rw [np_i_toInt] at k; exact k)
theorem np_ishr (C : np_Cx gA p R s m args c D cl tys A Ts own cc nL rm) {x y : Int} (hdg : decode cc pc = .ok (.ishr, 1)) (k : W p l e R s m args below meth c H locs cells slots Q (F0 m (pc + 1) ls (.int (np_i (np_shri x y)) :: rest))) : W p l e R s m args below meth c H locs cells slots Q (F0 m pc ls (.int (np_i y) :: .int (np_i x) :: rest)) := lv_ishr C.x C.b hdg (by unfold np_shri at k; rw [np_i_toInt] at k; exact k)
theorem np_iushr (C : np_Cx gA p R s m args c D cl tys A Ts own cc nL rm) {x y : Int} (hdg : decode cc pc = .ok (.iushr, 1)) (k : W p l e R s m args below meth c H locs cells slots Q (F0 m (pc + 1) ls (.int (np_i (np_ushri x y)) :: rest))) : W p l e R s m args below meth c H locs cells slots Q (F0 m pc ls (.int (np_i y) :: .int (np_i x) :: rest)) := lv_iushr C.x C.b hdg rfl (by unfold np_ushri at k; rw [np_i_toInt] at k; exact k)
theorem np_land (C : np_Cx gA p R s m args c D cl tys A Ts own cc nL rm) {x y : Int} (hdg : decode cc pc = .ok (.land, 1)) (k : W p l e R s m args below meth c H locs cells slots Q (F0 m (pc + 1) ls (.long (np_l (np_andl x y)) :: rest))) : W p l e R s m args below meth c H locs cells slots Q (F0 m pc ls (.long (np_l y) :: .long (np_l x) :: rest)) := lv_land C.x C.b hdg (by unfold np_andl at k; rw [np_l_toInt] at k; exact k)
theorem np_lor (C : np_Cx gA p R s m args c D cl tys A Ts own cc nL rm) {x y : Int} (hdg : decode cc pc = .ok (.lor, 1)) (k : W p l e R s m args below meth c H locs cells slots Q (F0 m (pc + 1) ls (.long (np_l (np_orl x y)) :: rest))) : W p l e R s m args below meth c H locs cells slots Q (F0 m pc ls (.long (np_l y) :: .long (np_l x) :: rest)) := lv_lor C.x C.b hdg (by unfold np_orl at k; rw [np_l_toInt] at k; exact k)
theorem np_lshl (C : np_Cx gA p R s m args c D cl tys A Ts own cc nL rm) {x y : Int} (hdg : decode cc pc = .ok (.lshl, 1)) (k : W p l e R s m args below meth c H locs cells slots Q (F0 m (pc + 1) ls (.long (np_l (np_shll x y)) :: rest))) : W p l e R s m args below meth c H locs cells slots Q (F0 m pc ls (.int (np_i y) :: .long (np_l x) :: rest)) := lv_lshl C.x C.b hdg rfl (by unfold np_shll at k; rw [np_l_toInt] at k; exact k)
theorem np_lushr (C : np_Cx gA p R s m args c D cl tys A Ts own cc nL rm) {x y : Int} (hdg : decode cc pc = .ok (.lushr, 1)) (k : W p l e R s m args below meth c H locs cells slots Q (F0 m (pc + 1) ls (.long (np_l (np_ushrl x y)) :: rest))) : W p l e R s m args below meth c H locs cells slots Q (F0 m pc ls (.int (np_i y) :: .long (np_l x) :: rest)) := lv_lushr C.x C.b hdg rfl (by unfold np_ushrl at k; rw [np_l_toInt] at k; exact k)
theorem np_lshr (C : np_Cx gA p R s m args c D cl tys A Ts own cc nL rm) {x y : Int} (hdg : decode cc pc = .ok (.lshr, 1)) (k : W p l e R s m args below meth c H locs cells slots Q (F0 m (pc + 1) ls (.long (np_l (np_shrl x y)) :: rest))) : W p l e R s m args below meth c H locs cells slots Q (F0 m pc ls (.int (np_i y) :: .long (np_l x) :: rest)) := lv_lshr C.x C.b hdg rfl (by unfold np_shrl at k; rw [np_l_toInt] at k; exact k)
theorem np_l2i (C : np_Cx gA p R s m args c D cl tys A Ts own cc nL rm) {x : Int} (hdg : decode cc pc = .ok (.l2i, 1)) (k : W p l e R s m args below meth c H locs cells slots Q (F0 m (pc + 1) ls (.int (np_i x) :: rest))) : W p l e R s m args below meth c H locs cells slots Q (F0 m pc ls (.long (np_l x) :: rest)) := lv_l2i C.x C.b hdg (np_l2i_e x) k
theorem np_i2b (C : np_Cx gA p R s m args c D cl tys A Ts own cc nL rm) {x : Int} (hdg : decode cc pc = .ok (.i2b, 1)) (k : W p l e R s m args below meth c H locs cells slots Q (F0 m (pc + 1) ls (.int (np_i (Int.bmod x 256)) :: rest))) : W p l e R s m args below meth c H locs cells slots Q (F0 m pc ls (.int (np_i x) :: rest)) := lv_i2b C.x C.b hdg (np_byte x) k
theorem np_i2c (C : np_Cx gA p R s m args c D cl tys A Ts own cc nL rm) {x : Int} (hdg : decode cc pc = .ok (.i2c, 1)) (k : W p l e R s m args below meth c H locs cells slots Q (F0 m (pc + 1) ls (.int (np_i (x % 65536)) :: rest))) : W p l e R s m args below meth c H locs cells slots Q (F0 m pc ls (.int (np_i x) :: rest)) := lv_i2c C.x C.b hdg (np_char x) k
theorem np_i2l (C : np_Cx gA p R s m args c D cl tys A Ts own cc nL rm) {x : Int} (hdg : decode cc pc = .ok (.i2l, 1)) {α : Type} {f1 : Option α} {o : α} (hf : np_ck (np_R x) f1 = some o) (k : f1 = some o → W p l e R s m args below meth c H locs cells slots Q (F0 m (pc + 1) ls (.long (np_l x) :: rest))) : W p l e R s m args below meth c H locs cells slots Q (F0 m pc ls (.int (np_i x) :: rest)) := lv_i2l C.x C.b hdg (np_i2l_e (np_ck_e hf).1) (k (np_ck_e hf).2)
theorem np_idiv (C : np_Cx gA p R s m args c D cl tys A Ts own cc nL rm) {x y : Int} (hdg : decode cc pc = .ok (.idiv, 1)) {α : Type} {f1 : Option α} {o : α} (hf : np_ck (0 ≤ x ∧ np_R x ∧ 0 < y ∧ np_R y) f1 = some o) (k : f1 = some o → W p l e R s m args below meth c H locs cells slots Q (F0 m (pc + 1) ls (.int (np_i (x / y)) :: rest))) : W p l e R s m args below meth c H locs cells slots Q (F0 m pc ls (.int (np_i y) :: .int (np_i x) :: rest)) := by
  obtain ⟨⟨h1, h2, h3, h4⟩, hf2⟩ := np_ck_e hf
  refine lv_idiv C.x C.b hdg (fun h => ?_) ?_
  · have := (np_eq h4 np_R0).mp h
    omega
  · obtain ⟨a, rfl⟩ := Int.eq_ofNat_of_zero_le h1
    obtain ⟨d, rfl⟩ := Int.eq_ofNat_of_zero_le (Int.le_of_lt h3)
    have e : np_i (a : Int) / np_i (d : Int) = np_i ((a : Int) / (d : Int)) := by
      rw [np_nat, np_nat, pk_div (by have := h2.2; omega) (by omega) (by have := h4.2; omega), ← np_nat]
      rfl
    rw [e]
    exact k hf2
theorem np_lcmp (C : np_Cx gA p R s m args c D cl tys A Ts own cc nL rm) {x y : Int} (hdg : decode cc pc = .ok (.lcmp, 1)) {α : Type} {f1 : Option α} {o : α} (hf : np_ck (np_R6 x ∧ np_R6 y) f1 = some o) (k : f1 = some o → W p l e R s m args below meth c H locs cells slots Q (F0 m (pc + 1) ls (.int (np_i (np_cmp x y)) :: rest))) : W p l e R s m args below meth c H locs cells slots Q (F0 m pc ls (.long (np_l y) :: .long (np_l x) :: rest)) := by
  obtain ⟨⟨h1, h2⟩, hf⟩ := np_ck_e hf
  refine W.lcmp C.x C.b hdg ?_
  have e : lg_cmp (np_l x) (np_l y) = np_i (np_cmp x y) := by
    unfold lg_cmp np_cmp
    by_cases a : y < x
    · rw [if_pos ((np_lt6 h2 h1).mpr a), if_pos a]; rfl
    · rw [if_neg (fun q => a ((np_lt6 h2 h1).mp q)), if_neg a]
      by_cases b : x = y
      · rw [if_pos ((np_eq6 h1 h2).mpr b), if_pos b]; rfl
      · rw [if_neg (fun q => b ((np_eq6 h1 h2).mp q)), if_neg b]; rfl
  rw [e]
  exact k hf
theorem np_icmp_eq (C : np_Cx gA p R s m args c D cl tys A Ts own cc nL rm) {x y : Int} {off : Int} {tgt : Nat} (hdg : decode cc pc = .ok (.if_icmp .eq off, 3)) (ht : (pc : Int) + off = (tgt : Int)) {α : Type} {f1 f2 : Option α} {o : α} (hf : np_ck (np_R x ∧ np_R y) (if x = y then f1 else f2) = some o) (kt : x = y → f1 = some o → W p l e R s m args below meth c H locs cells slots Q (F0 m tgt ls rest)) (kf : ¬ (x = y) → f2 = some o → W p l e R s m args below meth c H locs cells slots Q (F0 m (pc + 3) ls rest)) : W p l e R s m args below meth c H locs cells slots Q (F0 m pc ls (.int (np_i y) :: .int (np_i x) :: rest)) := by
  obtain ⟨⟨h1, h2⟩, hf⟩ := np_ck_e hf
  have q := np_eq h1 h2
  refine lv_icmp_eq C.x C.b hdg ht (fun h => ?_) (fun h => ?_)
  · have h9 := q.mp h
    exact kt h9 (by rw [if_pos h9] at hf; exact hf)
  · have h9 : ¬ (x = y) := fun z => h (q.mpr z)
    exact kf h9 (by rw [if_neg h9] at hf; exact hf)
theorem np_if_eq (C : np_Cx gA p R s m args c D cl tys A Ts own cc nL rm) {x : Int} {off : Int} {tgt : Nat} (hdg : decode cc pc = .ok (.ifCond .eq off, 3)) (ht : (pc : Int) + off = (tgt : Int)) {α : Type} {f1 f2 : Option α} {o : α} (hf : np_ck (np_R x) (if x = 0 then f1 else f2) = some o) (kt : x = 0 → f1 = some o → W p l e R s m args below meth c H locs cells slots Q (F0 m tgt ls rest)) (kf : ¬ (x = 0) → f2 = some o → W p l e R s m args below meth c H locs cells slots Q (F0 m (pc + 3) ls rest)) : W p l e R s m args below meth c H locs cells slots Q (F0 m pc ls (.int (np_i x) :: rest)) := by
  obtain ⟨h1, hf⟩ := np_ck_e hf
  have h2 := np_R0
  have q := np_eq h1 h2
  refine lv_if_eq C.x C.b hdg ht (fun h => ?_) (fun h => ?_)
  · have h9 := q.mp h
    exact kt h9 (by rw [if_pos h9] at hf; exact hf)
  · have h9 : ¬ (x = 0) := fun z => h (q.mpr z)
    exact kf h9 (by rw [if_neg h9] at hf; exact hf)
theorem np_icmp_ne (C : np_Cx gA p R s m args c D cl tys A Ts own cc nL rm) {x y : Int} {off : Int} {tgt : Nat} (hdg : decode cc pc = .ok (.if_icmp .ne off, 3)) (ht : (pc : Int) + off = (tgt : Int)) {α : Type} {f1 f2 : Option α} {o : α} (hf : np_ck (np_R x ∧ np_R y) (if x ≠ y then f1 else f2) = some o) (kt : x ≠ y → f1 = some o → W p l e R s m args below meth c H locs cells slots Q (F0 m tgt ls rest)) (kf : ¬ (x ≠ y) → f2 = some o → W p l e R s m args below meth c H locs cells slots Q (F0 m (pc + 3) ls rest)) : W p l e R s m args below meth c H locs cells slots Q (F0 m pc ls (.int (np_i y) :: .int (np_i x) :: rest)) := by
  obtain ⟨⟨h1, h2⟩, hf⟩ := np_ck_e hf
  have q := not_congr (np_eq h1 h2)
  refine lv_icmp_ne C.x C.b hdg ht (fun h => ?_) (fun h => ?_)
  · have h9 := q.mp h
    exact kt h9 (by rw [if_pos h9] at hf; exact hf)
  · have h9 : ¬ (x ≠ y) := fun z => z ((np_eq h1 h2).mp h)
    exact kf h9 (by rw [if_neg h9] at hf; exact hf)
theorem np_if_ne (C : np_Cx gA p R s m args c D cl tys A Ts own cc nL rm) {x : Int} {off : Int} {tgt : Nat} (hdg : decode cc pc = .ok (.ifCond .ne off, 3)) (ht : (pc : Int) + off = (tgt : Int)) {α : Type} {f1 f2 : Option α} {o : α} (hf : np_ck (np_R x) (if x ≠ 0 then f1 else f2) = some o) (kt : x ≠ 0 → f1 = some o → W p l e R s m args below meth c H locs cells slots Q (F0 m tgt ls rest)) (kf : ¬ (x ≠ 0) → f2 = some o → W p l e R s m args below meth c H locs cells slots Q (F0 m (pc + 3) ls rest)) : W p l e R s m args below meth c H locs cells slots Q (F0 m pc ls (.int (np_i x) :: rest)) := by
  obtain ⟨h1, hf⟩ := np_ck_e hf
  have h2 := np_R0
  have q := not_congr (np_eq h1 h2)
  refine lv_if_ne C.x C.b hdg ht (fun h => ?_) (fun h => ?_)
  · have h9 := q.mp h
    exact kt h9 (by rw [if_pos h9] at hf; exact hf)
  · have h9 : ¬ (x ≠ 0) := fun z => z ((np_eq h1 h2).mp h)
    exact kf h9 (by rw [if_neg h9] at hf; exact hf)
theorem np_icmp_lt (C : np_Cx gA p R s m args c D cl tys A Ts own cc nL rm) {x y : Int} {off : Int} {tgt : Nat} (hdg : decode cc pc = .ok (.if_icmp .lt off, 3)) (ht : (pc : Int) + off = (tgt : Int)) {α : Type} {f1 f2 : Option α} {o : α} (hf : np_ck (np_R x ∧ np_R y) (if x < y then f1 else f2) = some o) (kt : x < y → f1 = some o → W p l e R s m args below meth c H locs cells slots Q (F0 m tgt ls rest)) (kf : ¬ (x < y) → f2 = some o → W p l e R s m args below meth c H locs cells slots Q (F0 m (pc + 3) ls rest)) : W p l e R s m args below meth c H locs cells slots Q (F0 m pc ls (.int (np_i y) :: .int (np_i x) :: rest)) := by
  obtain ⟨⟨h1, h2⟩, hf⟩ := np_ck_e hf
  have q := np_lt h1 h2
  refine lv_icmp_lt C.x C.b hdg ht (fun h => ?_) (fun h => ?_)
  · have h9 := q.mp h
    exact kt h9 (by rw [if_pos h9] at hf; exact hf)
  · have h9 : ¬ (x < y) := fun z => h (q.mpr z)
    exact kf h9 (by rw [if_neg h9] at hf; exact hf)
theorem np_if_lt (C : np_Cx gA p R s m args c D cl tys A Ts own cc nL rm) {x : Int} {off : Int} {tgt : Nat} (hdg : decode cc pc = .ok (.ifCond .lt off, 3)) (ht : (pc : Int) + off = (tgt : Int)) {α : Type} {f1 f2 : Option α} {o : α} (hf : np_ck (np_R x) (if x < 0 then f1 else f2) = some o) (kt : x < 0 → f1 = some o → W p l e R s m args below meth c H locs cells slots Q (F0 m tgt ls rest)) (kf : ¬ (x < 0) → f2 = some o → W p l e R s m args below meth c H locs cells slots Q (F0 m (pc + 3) ls rest)) : W p l e R s m args below meth c H locs cells slots Q (F0 m pc ls (.int (np_i x) :: rest)) := by
  obtain ⟨h1, hf⟩ := np_ck_e hf
  have h2 := np_R0
  have q := np_lt h1 h2
  refine lv_if_lt C.x C.b hdg ht (fun h => ?_) (fun h => ?_)
  · have h9 := q.mp h
    exact kt h9 (by rw [if_pos h9] at hf; exact hf)
  · have h9 : ¬ (x < 0) := fun z => h (q.mpr z)
    exact kf h9 (by rw [if_neg h9] at hf; exact hf)
theorem np_icmp_ge (C : np_Cx gA p R s m args c D cl tys A Ts own cc nL rm) {x y : Int} {off : Int} {tgt : Nat} (hdg : decode cc pc = .ok (.if_icmp .ge off, 3)) (ht : (pc : Int) + off = (tgt : Int)) {α : Type} {f1 f2 : Option α} {o : α} (hf : np_ck (np_R x ∧ np_R y) (if y ≤ x then f1 else f2) = some o) (kt : y ≤ x → f1 = some o → W p l e R s m args below meth c H locs cells slots Q (F0 m tgt ls rest)) (kf : ¬ (y ≤ x) → f2 = some o → W p l e R s m args below meth c H locs cells slots Q (F0 m (pc + 3) ls rest)) : W p l e R s m args below meth c H locs cells slots Q (F0 m pc ls (.int (np_i y) :: .int (np_i x) :: rest)) := by
  obtain ⟨⟨h1, h2⟩, hf⟩ := np_ck_e hf
  have q := np_le h2 h1
  refine lv_icmp_ge C.x C.b hdg ht (fun h => ?_) (fun h => ?_)
  · have h9 := q.mp h
    exact kt h9 (by rw [if_pos h9] at hf; exact hf)
  · have h9 : ¬ (y ≤ x) := fun z => h (q.mpr z)
    exact kf h9 (by rw [if_neg h9] at hf; exact hf)
theorem np_if_ge (C : np_Cx gA p R s m args c D cl tys A Ts own cc nL rm) {x : Int} {off : Int} {tgt : Nat} (hdg : decode cc pc = .ok (.ifCond .ge off, 3)) (ht : (pc : Int) + off = (tgt : Int)) {α : Type} {f1 f2 : Option α} {o : α} (hf : np_ck (np_R x) (if 0 ≤ x then f1 else f2) = some o) (kt : 0 ≤ x → f1 = some o → W p l e R s m args below meth c H locs cells slots Q (F0 m tgt ls rest)) (kf : ¬ (0 ≤ x) → f2 = some o → W p l e R s m args below meth c H locs cells slots Q (F0 m (pc + 3) ls rest)) : W p l e R s m args below meth c H locs cells slots Q (F0 m pc ls (.int (np_i x) :: rest)) := by
  obtain ⟨h1, hf⟩ := np_ck_e hf
  have h2 := np_R0
  have q := np_le h2 h1
  refine lv_if_ge C.x C.b hdg ht (fun h => ?_) (fun h => ?_)
  · have h9 := q.mp h
    exact kt h9 (by rw [if_pos h9] at hf; exact hf)
  · have h9 : ¬ (0 ≤ x) := fun z => h (q.mpr z)
    exact kf h9 (by rw [if_neg h9] at hf; exact hf)
theorem np_icmp_gt (C : np_Cx gA p R s m args c D cl tys A Ts own cc nL rm) {x y : Int} {off : Int} {tgt : Nat} (hdg : decode cc pc = .ok (.if_icmp .gt off, 3)) (ht : (pc : Int) + off = (tgt : Int)) {α : Type} {f1 f2 : Option α} {o : α} (hf : np_ck (np_R x ∧ np_R y) (if y < x then f1 else f2) = some o) (kt : y < x → f1 = some o → W p l e R s m args below meth c H locs cells slots Q (F0 m tgt ls rest)) (kf : ¬ (y < x) → f2 = some o → W p l e R s m args below meth c H locs cells slots Q (F0 m (pc + 3) ls rest)) : W p l e R s m args below meth c H locs cells slots Q (F0 m pc ls (.int (np_i y) :: .int (np_i x) :: rest)) := by
  obtain ⟨⟨h1, h2⟩, hf⟩ := np_ck_e hf
  have q := np_lt h2 h1
  refine lv_icmp_gt C.x C.b hdg ht (fun h => ?_) (fun h => ?_)
  · have h9 := q.mp h
    exact kt h9 (by rw [if_pos h9] at hf; exact hf)
  · have h9 : ¬ (y < x) := fun z => h (q.mpr z)
    exact kf h9 (by rw [if_neg h9] at hf; exact hf)
theorem np_if_gt (C : np_Cx gA p R s m args c D cl tys A Ts own cc nL rm) {x : Int} {off : Int} {tgt : Nat} (hdg : decode cc pc = .ok (.ifCond .gt off, 3)) (ht : (pc : Int) + off = (tgt : Int)) {α : Type} {f1 f2 : Option α} {o : α} (hf : np_ck (np_R x) (if 0 < x then f1 else f2) = some o) (kt : 0 < x → f1 = some o → W p l e R s m args below meth c H locs cells slots Q (F0 m tgt ls rest)) (kf : ¬ (0 < x) → f2 = some o → W p l e R s m args below meth c H locs cells slots Q (F0 m (pc + 3) ls rest)) : W p l e R s m args below meth c H locs cells slots Q (F0 m pc ls (.int (np_i x) :: rest)) := by
  obtain ⟨h1, hf⟩ := np_ck_e hf
  have h2 := np_R0
  have q := np_lt h2 h1
  refine lv_if_gt C.x C.b hdg ht (fun h => ?_) (fun h => ?_)
  · have h9 := q.mp h
    exact kt h9 (by rw [if_pos h9] at hf; exact hf)
  · have h9 : ¬ (0 < x) := fun z => h (q.mpr z)
    exact kf h9 (by rw [if_neg h9] at hf; exact hf)
theorem np_icmp_le (C : np_Cx gA p R s m args c D cl tys A Ts own cc nL rm) {x y : Int} {off : Int} {tgt : Nat} (hdg : decode cc pc = .ok (.if_icmp .le off, 3)) (ht : (pc : Int) + off = (tgt : Int)) {α : Type} {f1 f2 : Option α} {o : α} (hf : np_ck (np_R x ∧ np_R y) (if x ≤ y then f1 else f2) = some o) (kt : x ≤ y → f1 = some o → W p l e R s m args below meth c H locs cells slots Q (F0 m tgt ls rest)) (kf : ¬ (x ≤ y) → f2 = some o → W p l e R s m args below meth c H locs cells slots Q (F0 m (pc + 3) ls rest)) : W p l e R s m args below meth c H locs cells slots Q (F0 m pc ls (.int (np_i y) :: .int (np_i x) :: rest)) := by
  obtain ⟨⟨h1, h2⟩, hf⟩ := np_ck_e hf
  have q := np_le h1 h2
  refine lv_icmp_le C.x C.b hdg ht (fun h => ?_) (fun h => ?_)
  · have h9 := q.mp h
    exact kt h9 (by rw [if_pos h9] at hf; exact hf)
  · have h9 : ¬ (x ≤ y) := fun z => h (q.mpr z)
    exact kf h9 (by rw [if_neg h9] at hf; exact hf)
theorem np_if_le (C : np_Cx gA p R s m args c D cl tys A Ts own cc nL rm) {x : Int} {off : Int} {tgt : Nat} (hdg : decode cc pc = .ok (.ifCond .le off, 3)) (ht : (pc : Int) + off = (tgt : Int)) {α : Type} {f1 f2 : Option α} {o : α} (hf : np_ck (np_R x) (if x ≤ 0 then f1 else f2) = some o) (kt : x ≤ 0 → f1 = some o → W p l e R s m args below meth c H locs cells slots Q (F0 m tgt ls rest)) (kf : ¬ (x ≤ 0) → f2 = some o → W p l e R s m args below meth c H locs cells slots Q (F0 m (pc + 3) ls rest)) : W p l e R s m args below meth c H locs cells slots Q (F0 m pc ls (.int (np_i x) :: rest)) := by
  obtain ⟨h1, hf⟩ := np_ck_e hf
  have h2 := np_R0
  have q := np_le h1 h2
  refine lv_if_le C.x C.b hdg ht (fun h => ?_) (fun h => ?_)
  · have h9 := q.mp h
    exact kt h9 (by rw [if_pos h9] at hf; exact hf)
  · have h9 : ¬ (x ≤ 0) := fun z => h (q.mpr z)
    exact kf h9 (by rw [if_neg h9] at hf; exact hf)
theorem np_case {α : Type} {P : Prop} {x k : Int} {f1 f2 : Option α} {o : α} (hf : (if x = k then f1 else f2) = some o) (k1 : x = k → f1 = some o → P) (k2 : ¬ x = k → f2 = some o → P) : P := by
  by_cases h : x = k
  · exact k1 h (by rw [if_pos h] at hf; exact hf)
  · exact k2 h (by rw [if_neg h] at hf; exact hf)
theorem np_tswI (C : np_Cx gA p R s m args c D cl tys A Ts own cc nL rm) {dflt lo hi : Int} {offs : Array Int} {len : Nat} {x k : Int} {off : Int} {tgt : Nat} (hdg : decode cc pc = .ok (.tableswitch dflt lo hi offs, len)) (hx : x = k) (h1 : ¬ (np_i k).toInt < lo) (h2 : ¬ hi < (np_i k).toInt) (ho : offs[((np_i k).toInt - lo).toNat]? = some off) (ht : (pc : Int) + off = (tgt : Int)) (kk : W p l e R s m args below meth c H locs cells slots Q (F0 m tgt ls rest)) : W p l e R s m args below meth c H locs cells slots Q (F0 m pc ls (.int (np_i x) :: rest)) := by
  subst hx
  exact lv_tableIn C.x C.b hdg h1 h2 ho ht kk
theorem np_tswO (C : np_Cx gA p R s m args c D cl tys A Ts own cc nL rm) {dflt lo hi : Int} {offs : Array Int} {len : Nat} {x : Int} {tgt : Nat} (hdg : decode cc pc = .ok (.tableswitch dflt lo hi offs, len)) (hR : np_R x) (h : x < lo ∨ hi < x) (ht : (pc : Int) + dflt = (tgt : Int)) (kk : W p l e R s m args below meth c H locs cells slots Q (F0 m tgt ls rest)) : W p l e R s m args below meth c H locs cells slots Q (F0 m pc ls (.int (np_i x) :: rest)) :=
  lv_tableOut C.x C.b hdg (by rw [np_toInt hR]; exact h) ht kk
theorem np_lswI (C : np_Cx gA p R s m args c D cl tys A Ts own cc nL rm) {dflt : Int} {ps : Array (Int × Int)} {len : Nat} {x k : Int} {off : Int} {tgt : Nat} (hdg : decode cc pc = .ok (.lookupswitch dflt ps, len)) (hx : x = k) (hp : (ps.toList.zip (ps.toList.drop 1)).all (fun (a, next) => a.1 < next.1) = true) (ho : Op.lookupswitch.offset ps.toList dflt (np_i k).toInt = off) (ht : (pc : Int) + off = (tgt : Int)) (kk : W p l e R s m args below meth c H locs cells slots Q (F0 m tgt ls rest)) : W p l e R s m args below meth c H locs cells slots Q (F0 m pc ls (.int (np_i x) :: rest)) := by
  subst hx
  exact lv_lookup C.x C.b hdg hp ho ht kk
theorem np_losw : ∀ (r : List (Int × Int)) (d x : Int), (∀ q ∈ r, ¬ x = q.1) → Op.lookupswitch.offset r d x = d
  | [], d, x, _ => rfl
  | (a, o) :: r, d, x, h => by
    rw [Op.lookupswitch.offset_cons, if_neg (fun q => h (a, o) List.mem_cons_self q.symm)]
    exact np_losw r d x (fun q hq => h q (List.mem_cons_of_mem _ hq))
theorem np_lswO (C : np_Cx gA p R s m args c D cl tys A Ts own cc nL rm) {dflt : Int} {ps : Array (Int × Int)} {len : Nat} {x : Int} {tgt : Nat} (hdg : decode cc pc = .ok (.lookupswitch dflt ps, len)) (hR : np_R x) (hp : (ps.toList.zip (ps.toList.drop 1)).all (fun (a, next) => a.1 < next.1) = true) (h : ∀ q ∈ ps.toList, ¬ x = q.1) (ht : (pc : Int) + dflt = (tgt : Int)) (kk : W p l e R s m args below meth c H locs cells slots Q (F0 m tgt ls rest)) : W p l e R s m args below meth c H locs cells slots Q (F0 m pc ls (.int (np_i x) :: rest)) :=
  lv_lookup C.x C.b hdg hp (by rw [np_toInt hR]; exact np_losw _ _ _ h) ht kk
theorem np_ldc (C : np_Cx gA p R s m args c D cl tys A Ts own cc nL rm) {index : Nat} {v : Int} (hw : Jvm.Cond.constant own index (np_i v) ∈ Ts) (hdg : decode cc pc = .ok (.ldc index, 2)) (k : W p l e R s m args below meth c H locs cells slots Q (F0 m (pc + 2) ls (.int (np_i v) :: rest))) : W p l e R s m args below meth c H locs cells slots Q (F0 m pc ls rest) := lv_ldc C.x C.b C.o (C.t _ hw) hdg k
theorem np_ldc2 (C : np_Cx gA p R s m args c D cl tys A Ts own cc nL rm) {index : Nat} {v : Int} (hw : Jvm.Cond.constantLong own index (np_l v) ∈ Ts) (hdg : decode cc pc = .ok (.ldc2_w index, 3)) (k : W p l e R s m args below meth c H locs cells slots Q (F0 m (pc + 3) ls (.long (np_l v) :: rest))) : W p l e R s m args below meth c H locs cells slots Q (F0 m pc ls rest) := lv_ldc2 C.x C.b C.o (C.t _ hw) hdg k
theorem np_get (C : np_Cx gA p R s m args c D cl tys A Ts own cc nL rm) {ref Cn : String} {T : u_T} {N ci index a : Nat} {ws : va_W} {fs : List Value} {v : Value} (hin : ∀ w ∈ u_ws Cn T N, w ∈ Ts) (hP : va_P D cl ws H) (k : Nat) (he : ws[k]? = some (a, .inr (ci, fs))) (hc : cl[ci]? = some (Cn, T, N)) (j : Nat) (hj : j < N) (hw : Cond.fieldLink own index ref (T j).2.1 (T j).2.2.1 ∈ Ts) (hsame : (T j).1 = ref) (hv : fs[j]? = some v) (hdg : decode cc pc = .ok (.getfield index, 3)) (kk : W p l e R s m args below meth c H locs cells slots Q (F0 m (pc + 3) ls (v :: rest))) : W p l e R s m args below meth c H locs cells slots Q (F0 m pc ls (.ref a :: rest)) :=
  va_get C.x C.b C.t hin C.o C.k hP k he hc j hj (C.t _ hw) (fun x h => hsame ▸ h) hv hdg kk
theorem np_put (C : np_Cx gA p R s m args c D cl tys A Ts own cc nL rm) {ref Cn : String} {T : u_T} {N ci index a : Nat} {fs : List Value} {v : Value} {σ2 : np_S} (hin : ∀ w ∈ u_ws Cn T N, w ∈ Ts) (ty0 : Nat → FieldType) (hty : ∀ k, k < N → parseFieldDescriptor (T k).2.2.1 = some (ty0 k)) (hnm : ∀ a, a < N → ∀ b, b < N → a ≠ b → (T a).2.1 ≠ (T b).2.1) (hat : np_At D cl A wd s σ H locs) (k : Nat) (he : (wd σ)[k]? = some (a, .inr (ci, fs))) (hc : cl[ci]? = some (Cn, T, N)) (j : Nat) (hj : j < N) (hw : Cond.fieldLink own index ref (T j).2.1 (T j).2.2.1 ∈ Ts) (hsame : (T j).1 = ref) (hfin : (T j).2.2.2 = false) {ty : FieldType} (hd : parseFieldDescriptor (T j).2.2.1 = some ty) (hn : narrow ty v = v) (hfit : fits ty v = true) (hl : j < fs.length) (hset : (wd σ).set k (a, .inr (ci, fs.set j v)) = wd σ2) (hdg : decode cc pc = .ok (.putfield index, 3)) (kk : ∀ (H : Heap) (locs : List Loc), np_At D cl A wd s σ2 H locs → W p l e R s m args below meth c H locs cells slots Q (F0 m (pc + 3) ls rest)) : W p l e R s m args below meth c H locs cells slots Q (F0 m pc ls (v :: .ref a :: rest)) :=
  va_put C.x C.b C.t hin ty0 hty hnm C.o C.k hat.1 hat.2.1 hat.2.2 k he hc j hj (C.t _ hw) (fun x h => hsame ▸ h) hfin hd hn hfit hl hdg (fun H1 locs1 h1 h2 h3 => kk H1 locs1 ⟨hset ▸ h1, hset ▸ h2, h3⟩)
theorem np_iaload (C : np_Cx gA p R s m args c D cl tys A Ts own cc nL rm) {ws : va_W} {a n kk0 : Nat} {cA : ClassId} {j : Int} (hP : va_P D cl ws H) (k : Nat) (he : ws[k]? = some (a, .inl (cA, n, .inl (fun i => np_i (σ kk0 i))))) (t : Nat) (ht : tys[t]? = some (cA, .int)) (hn : n < 2147483648) (hdg : decode cc pc = .ok (.iaload, 1)) {α : Type} {f1 : Option α} {o : α} (hf : np_ck (0 ≤ j ∧ j < (n : Int)) f1 = some o) (kk : f1 = some o → W p l e R s m args below meth c H locs cells slots Q (F0 m (pc + 1) ls (.int (np_i (σ kk0 j)) :: rest))) : W p l e R s m args below meth c H locs cells slots Q (F0 m pc ls (.int (np_i j) :: .ref a :: rest)) := by
  obtain ⟨⟨h1, h2⟩, hf⟩ := np_ck_e hf
  refine va_iald C.x C.b C.k hP k t he ht (np_in h1 h2 hn) hdg ?_
  rw [np_clamp h1 ⟨by omega, by omega⟩, Int.toNat_of_nonneg h1]
  exact kk hf
theorem np_baload (C : np_Cx gA p R s m args c D cl tys A Ts own cc nL rm) {ws : va_W} {a n kk0 : Nat} {cA : ClassId} {j : Int} (hP : va_P D cl ws H) (k : Nat) (he : ws[k]? = some (a, .inl (cA, n, .inl (fun i => np_i (σ kk0 i))))) (t : Nat) (ht : tys[t]? = some (cA, .byte)) (hn : n < 2147483648) (hdg : decode cc pc = .ok (.baload, 1)) {α : Type} {f1 : Option α} {o : α} (hf : np_ck (0 ≤ j ∧ j < (n : Int)) f1 = some o) (kk : f1 = some o → W p l e R s m args below meth c H locs cells slots Q (F0 m (pc + 1) ls (.int (np_i (σ kk0 j)) :: rest))) : W p l e R s m args below meth c H locs cells slots Q (F0 m pc ls (.int (np_i j) :: .ref a :: rest)) := by
  obtain ⟨⟨h1, h2⟩, hf⟩ := np_ck_e hf
  refine va_bald C.x C.b C.k hP k t he ht (np_in h1 h2 hn) hdg ?_
  rw [np_clamp h1 ⟨by omega, by omega⟩, Int.toNat_of_nonneg h1]
  exact kk hf
theorem np_zaload (C : np_Cx gA p R s m args c D cl tys A Ts own cc nL rm) {ws : va_W} {a n kk0 : Nat} {cA : ClassId} {j : Int} (hP : va_P D cl ws H) (k : Nat) (he : ws[k]? = some (a, .inl (cA, n, .inl (fun i => np_i (σ kk0 i))))) (t : Nat) (ht : tys[t]? = some (cA, .boolean)) (hn : n < 2147483648) (hdg : decode cc pc = .ok (.baload, 1)) {α : Type} {f1 : Option α} {o : α} (hf : np_ck (0 ≤ j ∧ j < (n : Int)) f1 = some o) (kk : f1 = some o → W p l e R s m args below meth c H locs cells slots Q (F0 m (pc + 1) ls (.int (np_i (σ kk0 j)) :: rest))) : W p l e R s m args below meth c H locs cells slots Q (F0 m pc ls (.int (np_i j) :: .ref a :: rest)) := by
  obtain ⟨⟨h1, h2⟩, hf⟩ := np_ck_e hf
  refine va_zald C.x C.b C.k hP k t he ht (np_in h1 h2 hn) hdg ?_
  rw [np_clamp h1 ⟨by omega, by omega⟩, Int.toNat_of_nonneg h1]
  exact kk hf
theorem np_laload (C : np_Cx gA p R s m args c D cl tys A Ts own cc nL rm) {ws : va_W} {a n kk0 : Nat} {cA : ClassId} {j : Int} (hP : va_P D cl ws H) (k : Nat) (he : ws[k]? = some (a, .inl (cA, n, .inr (.inl (fun i => np_l (σ kk0 i)))))) (t : Nat) (ht : tys[t]? = some (cA, .long)) (hn : n < 2147483648) (hdg : decode cc pc = .ok (.laload, 1)) {α : Type} {f1 : Option α} {o : α} (hf : np_ck (0 ≤ j ∧ j < (n : Int)) f1 = some o) (kk : f1 = some o → W p l e R s m args below meth c H locs cells slots Q (F0 m (pc + 1) ls (.long (np_l (σ kk0 j)) :: rest))) : W p l e R s m args below meth c H locs cells slots Q (F0 m pc ls (.int (np_i j) :: .ref a :: rest)) := by
  obtain ⟨⟨h1, h2⟩, hf⟩ := np_ck_e hf
  refine va_lald C.x C.b C.k hP k t he ht (np_in h1 h2 hn) hdg ?_
  rw [np_clamp h1 ⟨by omega, by omega⟩, Int.toNat_of_nonneg h1]
  exact kk hf
theorem np_updI {f : Int → Int} {j v : Int} (h : 0 ≤ j) (hR : np_R j) : upd (fun i : Nat => np_i (f i)) (np_i j).toNatClampNeg (np_i v) = fun i : Nat => np_i (if (i : Int) = j then v else f i) := by
  funext i
  rw [np_clamp h hR]
  by_cases q : i = j.toNat
  · subst q
    rw [if_pos (by omega)]
    simp [upd]
  · rw [if_neg (by omega)]
    simp [upd, q]
theorem np_updL {f : Int → Int} {j v : Int} (h : 0 ≤ j) (hR : np_R j) : vp_updL (fun i : Nat => np_l (f i)) (np_i j).toNatClampNeg (np_l v) = fun i : Nat => np_l (if (i : Int) = j then v else f i) := by
  funext i
  rw [np_clamp h hR]
  by_cases q : i = j.toNat
  · subst q
    rw [if_pos (by omega)]
    simp [vp_updL]
  · rw [if_neg (by omega)]
    simp [vp_updL, q]
theorem np_iastore (C : np_Cx gA p R s m args c D cl tys A Ts own cc nL rm) {a n kk0 : Nat} {cA : ClassId} {j x : Int} {σ2 : np_S} (hat : np_At D cl A wd s σ H locs) (k : Nat) (he : (wd σ)[k]? = some (a, .inl (cA, n, .inl (fun i => np_i (σ kk0 i))))) (t : Nat) (ht : tys[t]? = some (cA, .int)) (hn : n < 2147483648) (hset : (wd σ).set k (a, .inl (cA, n, .inl (fun i : Nat => np_i (if (i : Int) = j then x else σ kk0 i)))) = wd σ2) (hdg : decode cc pc = .ok (.iastore, 1)) {α : Type} {f1 : Option α} {o : α} (hf : np_ck (0 ≤ j ∧ j < (n : Int)) f1 = some o) (kk : ∀ (H : Heap) (locs : List Loc), np_At D cl A wd s σ2 H locs → f1 = some o → W p l e R s m args below meth c H locs cells slots Q (F0 m (pc + 1) ls rest)) : W p l e R s m args below meth c H locs cells slots Q (F0 m pc ls (.int (np_i x) :: .int (np_i j) :: .ref a :: rest)) := by
  obtain ⟨⟨g1, g2⟩, hf⟩ := np_ck_e hf
  have hR : np_R j := ⟨by omega, by omega⟩
  refine va_iast C.x C.b C.k hat.1 hat.2.1 hat.2.2 k t he ht (np_in g1 g2 hn) hdg (fun H1 locs1 h1 h2 h3 => ?_)
  rw [np_updI g1 hR] at h1 h2
  exact kk H1 locs1 ⟨hset ▸ h1, hset ▸ h2, h3⟩ hf
theorem np_bastore (C : np_Cx gA p R s m args c D cl tys A Ts own cc nL rm) {a n kk0 : Nat} {cA : ClassId} {j x : Int} {σ2 : np_S} (hat : np_At D cl A wd s σ H locs) (k : Nat) (he : (wd σ)[k]? = some (a, .inl (cA, n, .inl (fun i => np_i (σ kk0 i))))) (t : Nat) (ht : tys[t]? = some (cA, .byte)) (hn : n < 2147483648) (hset : (wd σ).set k (a, .inl (cA, n, .inl (fun i : Nat => np_i (if (i : Int) = j then Int.bmod x 256 else σ kk0 i)))) = wd σ2) (hdg : decode cc pc = .ok (.bastore, 1)) {α : Type} {f1 : Option α} {o : α} (hf : np_ck (0 ≤ j ∧ j < (n : Int)) f1 = some o) (kk : ∀ (H : Heap) (locs : List Loc), np_At D cl A wd s σ2 H locs → f1 = some o → W p l e R s m args below meth c H locs cells slots Q (F0 m (pc + 1) ls rest)) : W p l e R s m args below meth c H locs cells slots Q (F0 m pc ls (.int (np_i x) :: .int (np_i j) :: .ref a :: rest)) := by
  obtain ⟨⟨g1, g2⟩, hf⟩ := np_ck_e hf
  have hR : np_R j := ⟨by omega, by omega⟩
  refine va_bast C.x C.b C.k hat.1 hat.2.1 hat.2.2 k t he ht (np_in g1 g2 hn) hdg (fun H1 locs1 h1 h2 h3 => ?_)
  rw [vp_nar_byte, np_byte] at h1 h2; rw [np_updI g1 hR] at h1 h2
  exact kk H1 locs1 ⟨hset ▸ h1, hset ▸ h2, h3⟩ hf
theorem np_lastore (C : np_Cx gA p R s m args c D cl tys A Ts own cc nL rm) {a n kk0 : Nat} {cA : ClassId} {j x : Int} {σ2 : np_S} (hat : np_At D cl A wd s σ H locs) (k : Nat) (he : (wd σ)[k]? = some (a, .inl (cA, n, .inr (.inl (fun i => np_l (σ kk0 i)))))) (t : Nat) (ht : tys[t]? = some (cA, .long)) (hn : n < 2147483648) (hset : (wd σ).set k (a, .inl (cA, n, .inr (.inl (fun i : Nat => np_l (if (i : Int) = j then x else σ kk0 i))))) = wd σ2) (hdg : decode cc pc = .ok (.lastore, 1)) {α : Type} {f1 : Option α} {o : α} (hf : np_ck (0 ≤ j ∧ j < (n : Int)) f1 = some o) (kk : ∀ (H : Heap) (locs : List Loc), np_At D cl A wd s σ2 H locs → f1 = some o → W p l e R s m args below meth c H locs cells slots Q (F0 m (pc + 1) ls rest)) : W p l e R s m args below meth c H locs cells slots Q (F0 m pc ls (.long (np_l x) :: .int (np_i j) :: .ref a :: rest)) := by
  obtain ⟨⟨g1, g2⟩, hf⟩ := np_ck_e hf
  have hR : np_R j := ⟨by omega, by omega⟩
  refine va_last C.x C.b C.k hat.1 hat.2.1 hat.2.2 k t he ht (np_in g1 g2 hn) hdg (fun H1 locs1 h1 h2 h3 => ?_)
  rw [np_updL g1 hR] at h1 h2
  exact kk H1 locs1 ⟨hset ▸ h1, hset ▸ h2, h3⟩ hf
theorem np_zastore (C : np_Cx gA p R s m args c D cl tys A Ts own cc nL rm) {a n kk0 : Nat} {cA : ClassId} {j x : Int} {σ2 : np_S} (hat : np_At D cl A wd s σ H locs) (k : Nat) (he : (wd σ)[k]? = some (a, .inl (cA, n, .inl (fun i => np_i (σ kk0 i))))) (t : Nat) (ht : tys[t]? = some (cA, .boolean)) (hn : n < 2147483648) (hset : (wd σ).set k (a, .inl (cA, n, .inl (fun i : Nat => np_i (if (i : Int) = j then x else σ kk0 i)))) = wd σ2) (hdg : decode cc pc = .ok (.bastore, 1)) {α : Type} {f1 : Option α} {o : α} (hf : np_ck ((0 ≤ j ∧ j < (n : Int)) ∧ (x = 0 ∨ x = 1)) f1 = some o) (kk : ∀ (H : Heap) (locs : List Loc), np_At D cl A wd s σ2 H locs → f1 = some o → W p l e R s m args below meth c H locs cells slots Q (F0 m (pc + 1) ls rest)) : W p l e R s m args below meth c H locs cells slots Q (F0 m pc ls (.int (np_i x) :: .int (np_i j) :: .ref a :: rest)) := by
  obtain ⟨⟨⟨g1, g2⟩, gx⟩, hf⟩ := np_ck_e hf
  have hR : np_R j := ⟨by omega, by omega⟩
  refine va_zast C.x C.b C.k hat.1 hat.2.1 hat.2.2 k t he ht (np_in g1 g2 hn) hdg (fun H1 locs1 h1 h2 h3 => ?_)
  have e : vp_nar .boolean (np_i x) = np_i x := by rcases gx with h | h <;> (subst h; decide +kernel)
  rw [e, np_updI g1 hR] at h1 h2
  exact kk H1 locs1 ⟨hset ▸ h1, hset ▸ h2, h3⟩ hf
theorem np_alen (C : np_Cx gA p R s m args c D cl tys A Ts own cc nL rm) {ws : va_W} {a : Nat} {n : Int} {cA : ClassId} {x : vp_A} {ty : FieldType} (hP : va_P D cl ws H) (k : Nat) (he : ws[k]? = some (a, .inl (cA, x))) (t : Nat) (ht : tys[t]? = some (cA, ty)) (hv : Int32.ofNat x.1 = np_i n) (hdg : decode cc pc = .ok (.arraylength, 1)) (kk : W p l e R s m args below meth c H locs cells slots Q (F0 m (pc + 1) ls (.int (np_i n) :: rest))) : W p l e R s m args below meth c H locs cells slots Q (F0 m pc ls (.ref a :: rest)) :=
  va_alen C.x C.b C.k hP k t he ht hv hdg kk
theorem np_getk (C : np_Cx gA p R s m args c D cl tys A Ts own cc nL rm) {n d : String} {index a : Nat} {v : Value} (hat : np_At D cl A wd s σ H locs) (hE : va_OF "java/lang/String" n d v a A s s.heap) (hw : Cond.fieldLink own index "java/lang/String" n d ∈ Ts) (hdg : decode cc pc = .ok (.getfield index, 3)) (kk : W p l e R s m args below meth c H locs cells slots Q (F0 m (pc + 3) ls (v :: rest))) : W p l e R s m args below meth c H locs cells slots Q (F0 m pc ls (.ref a :: rest)) :=
  vk_getf C.x C.b hE hat.2.2 C.o (C.t _ hw) (fun _ h => h) hdg kk
theorem np_gets (C : np_Cx gA p R s m args c D cl tys A Ts own cc nL rm) {n d cn : String} {index : Nat} {v : Value} (hat : np_At D cl A wd s σ H locs) (hZ : va_Z cn n d v A s s.heap) (hw : Cond.fieldLink own index cn n d ∈ Ts) (hdg : decode cc pc = .ok (.getstatic index, 3)) (kk : W p l e R s m args below meth c H locs cells slots Q (F0 m (pc + 3) ls (v :: rest))) : W p l e R s m args below meth c H locs cells slots Q (F0 m pc ls rest) :=
  va_gets C.x C.b hZ hat.2.2 C.o (C.t _ hw) (fun _ h => h) hdg kk
theorem np_kald (C : np_Cx gA p R s m args c D cl tys A Ts own cc nL rm) {a i n : Nat} {j : Int} {N : Nat} (hat : np_At D cl A wd s σ H locs) (hT : va_T .byte a N (fun j => .int ((np_sb.getD i []).getD j 0)) A s s.heap) (hN : N = n) (hn : n < 2147483648) (hdg : decode cc pc = .ok (.baload, 1)) {α : Type} {f1 : Option α} {o : α} (hf : np_ck (0 ≤ j ∧ j < (n : Int)) f1 = some o) (kk : f1 = some o → W p l e R s m args below meth c H locs cells slots Q (F0 m (pc + 1) ls (.int (np_i (np_kb i j)) :: rest))) : W p l e R s m args below meth c H locs cells slots Q (F0 m pc ls (.int (np_i j) :: .ref a :: rest)) := by
  subst hN
  obtain ⟨⟨h1, h2⟩, hf⟩ := np_ck_e hf
  refine va_tb C.x C.b hT hat.2.2 (np_in h1 h2 hn) rfl hdg ?_
  rw [np_clamp h1 ⟨by omega, by omega⟩]
  have k := kk hf
  unfold np_kb at k
  rw [np_i_toInt] at k
  exact k
theorem np_klen (C : np_Cx gA p R s m args c D cl tys A Ts own cc nL rm) {a N : Nat} {n : Int} {f : Nat → Value} (hat : np_At D cl A wd s σ H locs) (hT : va_T .byte a N f A s s.heap) (hv : Int32.ofNat N = np_i n) (hdg : decode cc pc = .ok (.arraylength, 1)) (kk : W p l e R s m args below meth c H locs cells slots Q (F0 m (pc + 1) ls (.int (np_i n) :: rest))) : W p l e R s m args below meth c H locs cells slots Q (F0 m pc ls (.ref a :: rest)) :=
  va_tlen C.x C.b hT hat.2.2 hv hdg kk
end NPR
