section NPO
variable {p : Program} {l : Launch} {e : Env} {R : Room} {s : State} {m : MethodId} {args : Array Value} {below : List Frame} {meth : Method} {c : Code} {H : Heap} {locs : List Loc} {cells slots : Nat} {Q : State → Prop}
variable {cc : ByteArray} {pc : Nat} {ls : Array Slot} {rest : List Value} {D : va_G} {cl : List vw_C} {tys : List (ClassId × FieldType)} {A : Nat → Prop} {Ts : List Cond} {own : String} {nL : Nat} {rm : Room} {wd : np_S → va_W} {σ : np_S} {gA : Nat → Nat} {cA : Nat → ClassId} {ws : va_W}
/-- a new array, its class by the tables -/
theorem np_newa (C : np_Cx gA p R s m args c D cl (np_ty cA) A Ts own cc nL rm) {atype : ArrayType} {ty : FieldType} (w : .arrayClass ty ∈ Ts) (hty : newarray.typeOf atype = ty) (t : Nat) (ht : (np_ty cA)[t]? = some (cA t, ty)) (hra : ∀ (c1 c2 : ClassId), va_RA s c1 ty → va_RA s c2 ty → c1 = c2) (hP : va_P D cl ws H) (hD : va_D A ws) (hS : va_S A s.heap H locs)
    {n : Int} {N : Nat} {a0 : vp_A} (ha : ∀ cA : ClassId, vp_cell cA a0 = arrV cA N (fun _ => defaultValue ty)) (hn : n = (N : Int)) (hN : N < 2147483648) (hbytes : N * componentBytes ty ≤ 536870912) (hcells : cells + 1 ≤ rm.cells) (hslots : slots + N ≤ rm.slots) (hdg : decode cc pc = .ok (.newarray atype, 2))
    (kk : ∀ (q : Nat) (H : Heap), va_P D cl (ws ++ [(q, .inl (cA t, a0))]) H → va_D A (ws ++ [(q, .inl (cA t, a0))]) → va_S A s.heap H locs → W p l e R s m args below meth c H locs (cells + 1) (slots + N) Q (F0 m (pc + 2) ls (.ref q :: rest))) : W p l e R s m args below meth c H locs cells slots Q (F0 m pc ls (.int (np_i n) :: rest)) := by
  have hr := C.r
  subst hr
  subst hn
  have hneg : ¬ np_i (N : Int) < 0 := by
    intro h
    have h2 := (np_lt (x := (N : Int)) (y := 0) ⟨by omega, by omega⟩ np_R0).mp h
    omega
  have hcl : (np_i (N : Int)).toNatClampNeg = N := by rw [np_clamp (by omega) ⟨by omega, by omega⟩]; omega
  refine va_newa C.x C.b (by rw [hty]; exact C.t _ w) hty C.k hP hD hS C.a ha hneg hcl hbytes hcells hslots hdg (fun q cB H1 hK1 hP1 hD1 hS1 => ?_)
  have e1 : cB = cA t := hra _ _ (hK1.2 4 (cB, ty) rfl).2 (C.k.2 t (cA t, ty) ht).2
  subst e1
  exact kk q H1 hP1 hD1 hS1
theorem np_raI {s : State} (c1 c2 : ClassId) (h1 : va_RA s c1 .int) (h2 : va_RA s c2 .int) : c1 = c2 := Option.some.inj (h1.symm.trans h2)
theorem np_raL {s : State} (c1 c2 : ClassId) (h1 : va_RA s c1 .long) (h2 : va_RA s c2 .long) : c1 = c2 := Option.some.inj (h1.symm.trans h2)
theorem np_raB {s : State} (c1 c2 : ClassId) (h1 : va_RA s c1 .byte) (h2 : va_RA s c2 .byte) : c1 = c2 := Option.some.inj (h1.symm.trans h2)
theorem np_raZ {s : State} (c1 c2 : ClassId) (h1 : va_RA s c1 .boolean) (h2 : va_RA s c2 .boolean) : c1 = c2 := Option.some.inj (h1.symm.trans h2)
/-- a final field, in its class's constructor -/
theorem np_putF (C : np_Cx gA p R s m args c D cl (np_ty cA) A Ts own cc nL rm) {ref Cn : String} {T : u_T} {N ci index a : Nat} {fs : List Value} {v : Value} {ws2 : va_W} (hin : ∀ w ∈ u_ws Cn T N, w ∈ Ts) (ty0 : Nat → FieldType) (hty : ∀ k, k < N → parseFieldDescriptor (T k).2.2.1 = some (ty0 k)) (hnm : ∀ a, a < N → ∀ b, b < N → a ≠ b → (T a).2.1 ≠ (T b).2.1) (hP : va_P D cl ws H) (hD : va_D A ws) (hS : va_S A s.heap H locs) (k : Nat) (he : ws[k]? = some (a, .inr (ci, fs))) (hc : cl[ci]? = some (Cn, T, N)) (j : Nat) (hj : j < N) (hw : Cond.fieldLink own index ref (T j).2.1 (T j).2.2.1 ∈ Ts) (hsame : (T j).1 = ref) (hfin : (T j).2.2.2 = true) (hin2 : meth.name = "<init>") (hdecl : (T j).1 = own) {ty : FieldType} (hd : parseFieldDescriptor (T j).2.2.1 = some ty) (hn : narrow ty v = v) (hfit : fits ty v = true) (hl : j < fs.length) (hset : ws.set k (a, .inr (ci, fs.set j v)) = ws2) (hdg : decode cc pc = .ok (.putfield index, 3)) (kk : ∀ (H : Heap) (locs : List Loc), va_P D cl ws2 H → va_D A ws2 → va_S A s.heap H locs → W p l e R s m args below meth c H locs cells slots Q (F0 m (pc + 3) ls rest)) : W p l e R s m args below meth c H locs cells slots Q (F0 m pc ls (v :: .ref a :: rest)) :=
  va_putF C.x C.b C.t hin ty0 hty hnm C.o C.k hP hD hS k he hc j hj (C.t _ hw) (fun x h => hsame ▸ h) hfin hin2 hdecl hd hn hfit hl hdg (fun H1 locs1 h1 h2 h3 => kk H1 locs1 (hset ▸ h1) (hset ▸ h2) h3)
theorem np_putC (C : np_Cx gA p R s m args c D cl (np_ty cA) A Ts own cc nL rm) {ref Cn : String} {T : u_T} {N ci index a : Nat} {fs : List Value} {v : Value} {ws2 : va_W} (hin : ∀ w ∈ u_ws Cn T N, w ∈ Ts) (ty0 : Nat → FieldType) (hty : ∀ k, k < N → parseFieldDescriptor (T k).2.2.1 = some (ty0 k)) (hnm : ∀ a, a < N → ∀ b, b < N → a ≠ b → (T a).2.1 ≠ (T b).2.1) (hP : va_P D cl ws H) (hD : va_D A ws) (hS : va_S A s.heap H locs) (k : Nat) (he : ws[k]? = some (a, .inr (ci, fs))) (hc : cl[ci]? = some (Cn, T, N)) (j : Nat) (hj : j < N) (hw : Cond.fieldLink own index ref (T j).2.1 (T j).2.2.1 ∈ Ts) (hsame : (T j).1 = ref) (hfin : (T j).2.2.2 = false) {ty : FieldType} (hd : parseFieldDescriptor (T j).2.2.1 = some ty) (hn : narrow ty v = v) (hfit : fits ty v = true) (hl : j < fs.length) (hset : ws.set k (a, .inr (ci, fs.set j v)) = ws2) (hdg : decode cc pc = .ok (.putfield index, 3)) (kk : ∀ (H : Heap) (locs : List Loc), va_P D cl ws2 H → va_D A ws2 → va_S A s.heap H locs → W p l e R s m args below meth c H locs cells slots Q (F0 m (pc + 3) ls rest)) : W p l e R s m args below meth c H locs cells slots Q (F0 m pc ls (v :: .ref a :: rest)) :=
  va_put C.x C.b C.t hin ty0 hty hnm C.o C.k hP hD hS k he hc j hj (C.t _ hw) (fun x h => hsame ▸ h) hfin hd hn hfit hl hdg (fun H1 locs1 h1 h2 h3 => kk H1 locs1 (hset ▸ h1) (hset ▸ h2) h3)
theorem np_oinit (C : np_Cx gA p R s m args c D cl (np_ty cA) A Ts own cc nL rm) {index a : Nat} (w1 : .methodLink own index objectInit ∈ Ts) (w2 : .instanceMethod objectInit ∈ Ts) (w3 : .code objectInit ⟨#[0xb1]⟩ 1 none ∈ Ts) (hls : ls.size = nL) (hf : 1 ≤ rm.frames) (hlo : 12 + (rest.map fun v => v.category).sum ≤ rm.locals) (hdg : decode cc pc = .ok (.invokespecial index, 3)) (kk : W p l e R s m args below meth c H locs cells slots Q (F0 m (pc + 3) ls rest)) : W p l e R s m args below meth c H locs cells slots Q (F0 m pc ls (.ref a :: rest)) := by
  have hr := C.r
  subst hr
  exact W.objInit C.x C.b C.o (C.t _ w1) (C.t _ w2) (C.t _ w3) rfl (hls.trans C.ml.symm) rfl hdg hf (by show 2 * 0 + _ + 12 ≤ _; omega) kk
end NPO
/-- a constructor's start and end -/
def np_PreC (gA : Nat → Nat) (D : va_G) (cl : List vw_C) (tys : List (ClassId × FieldType)) (ws0 : va_W) (sz : Nat) : State → Prop := fun U => U.heap.size = sz ∧ va_P D cl ws0 U.heap ∧ va_K D cl tys U ∧ va_D (fun _ => True) ws0 ∧ np_E gA (va_A ws0 sz) U U.heap
def np_BC (D : va_G) (cl : List vw_C) (tys : List (ClassId × FieldType)) (A : Nat → Prop) {S : Type} (wsf : S → va_W) : S → State → Prop := fun u t => va_P D cl (wsf u) t.heap ∧ va_K D cl tys t ∧ va_D A (wsf u)
set_option maxHeartbeats 1000000 in
theorem np_mkc {gA : Nat → Nat} {l : Launch} {D : va_G} {cl : List vw_C} {tys : List (ClassId × FieldType)} {y : MethodName} {cc : ByteArray} {nL mc ms : Nat} {AL : List Cond} {rm : Room} {avs : List Value} {ws0 : va_W} {S : Type} {post : S → Prop} {wsf : S → va_W} (hy : plainName y.cls = true) (hlen : (lg_sl avs).length ≤ nL)
    (body : ∀ (p : Program) (e : Env) (R : Room) (s : State) (m : MethodId) (args : Array Value) (below : List Frame) (meth : Method) (c : Code) (Q : State → Prop) (A : Nat → Prop) (ls : Array Slot), np_Cx gA p R s m args c D cl tys A AL y.cls cc nL rm → meth.name = y.name →
      (∀ (pc : Nat) (ls : Array Slot) (H : Heap) (locs : List Loc) (u : S), decode cc pc = .ok (.return_, 1) → post u → va_P D cl (wsf u) H → va_D A (wsf u) → va_S A s.heap H locs → W p l e R s m args below meth c H locs mc ms Q (F0 m pc ls [])) →
      va_P D cl ws0 s.heap → va_D A ws0 → va_S A s.heap s.heap [] → lv_has ls nL (lv_args 0 avs) → W p l e R s m args below meth c s.heap [] 0 0 Q (F0 m 0 ls [])) (sz : Nat) :
    Met l y (.code y cc nL none :: AL) rm (va_Pc avs (np_PreC gA D cl tys ws0 sz)) (va_Qv post (np_BC D cl tys (va_A ws0 sz) wsf) (va_A ws0 sz)) mc ms (va_A ws0 sz) := by
  refine Met.ofW (cc := cc) (maxL := nL) (ret := none) hy rfl ?_
  intro p e s m args below meth c s₁ B hml hv
  obtain ⟨rfl, hsz, hP, hK, hD0, hE⟩ := hv
  subst hsz
  have hts := atoms_spec (ws := .code y cc nL none :: AL) B.pre
  have hown : s.vm.findClass y.cls = some m.cls := findClass_of_methodNamed B.named
  have hlocks := B.notSynchronized
  rw [lg_entry_eq]
  have hC : np_Cx gA p (headSpec (.code y cc nL none :: AL) rm).room s m avs.toArray c D cl tys (va_A ws0 s.heap.size) AL y.cls cc nL rm := ⟨⟨B.exec, B.bytes, hml, hown, fun w hw => hts w (List.mem_cons_of_mem _ hw)⟩, hK, fun a h => Or.inr h, rfl, hE, np_noSt hP⟩
  refine body p e _ s m _ below meth c _ (va_A ws0 s.heap.size) _ hC (name_of_methodNamed B.named B.method).1 (fun pc ls H locs u hdg hp hP1 hD1 hS1 => ?_) hP hD0.self va_S.rf (lv_entry avs hlen)
  exact W.vret hC.x hC.b B.returns (fun t ht hW => ⟨⟨u, rfl, hp, by rw [ht]; exact hP1, va_K.moved hW.alike hK, hD1⟩, hS1.F ht⟩) hS1.2.2 hdg hlocks
