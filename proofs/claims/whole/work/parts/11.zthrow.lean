/-! a method's rest as an invocation of its own: nothing has been written since -/
set_option maxHeartbeats 1000000 in
theorem np_rebase {p : Program} {l : Launch} {e : Env} {R : Room} {s : State} {m : MethodId} {args : Array Value} {below : List Frame} {meth : Method} {c : Code} {T : State} {locs : List Loc} {cells slots : Nat} (X : Stand p l e R s m args below meth c T locs cells slots) (hc : cells ≤ R.cells) (hs : slots ≤ R.slots) :
    Stand p l e { R with cells := R.cells - cells, slots := R.slots - slots } (T.setFrames (.invoking m args :: below)) m args below meth c T [] 0 0 := by
  have hm' : T.vm.method? m = some meth := X.method'
  obtain ⟨g₀, hfr⟩ := X.frames_eq
  have hcur : T.cur < T.threads.size := State.cur_lt_of_frames hfr
  have hF : (T.setFrames (.invoking m args :: below)).frames = .invoking m args :: below := State.frames_setFrames _ hcur
  have hmm : (T.setFrames (.invoking m args :: below)).vm.method? m = s.vm.method? m := hm'.trans X.method.symm
  have e1 : (T.setFrames (.invoking m args :: below)).localsInUse = s.localsInUse := by
    unfold State.localsInUse
    rw [hF, X.frames]
    show _ + (((((T.setFrames (.invoking m args :: below)).vm.method? m).bind (·.code)).map (·.maxLocals)).getD 0 + 11) = _ + ((((s.vm.method? m).bind (·.code)).map (·.maxLocals)).getD 0 + 11)
    rw [hmm]
  have e2 : e.platform.stackLimits (T.setFrames (.invoking m args :: below)).me = e.platform.stackLimits s.me := by rw [State.stackLimits_setFrames]; exact X.limits
  have e3 : (T.setFrames (.invoking m args :: below)).me.stackBytes = s.me.stackBytes := by rw [State.stackBytes_setFrames]; exact X.bytes
  have z1 := X.heapSize
  have z2 := X.used
  refine ⟨X.admits, X.cas, X.clock, hF, ?_, ?_, hm', X.code, X.here, X.tail, State.WarmedH.refl _, by rw [State.stackLimits_setFrames], by rw [State.stackBytes_setFrames], ?_⟩
  · have h := X.room
    simp only [State.hasRoom, Bool.and_eq_true, decide_eq_true_eq] at h ⊢
    rw [X.frames] at h
    rw [hF, e1, e2, e3]
    obtain ⟨⟨⟨⟨h1, h2⟩, h7⟩, h8⟩, h9⟩ := h
    refine ⟨⟨⟨⟨h1, h2⟩, ?_⟩, ?_⟩, X.book⟩
    · show T.heap.size + (R.cells - cells) ≤ _
      omega
    · show T.slotsUsed + (R.slots - slots) ≤ _
      omega
  · have h := X.hears
    have hal := X.warmed.alike
    cases below with
    | nil => simpa [State.hears, hm', X.method] using h
    | cons f r =>
      cases f with
      | java g =>
        have hcd : (T.setFrames (.invoking m args :: .java g :: r)).code? g.method = s.code? g.method := by
          rw [State.code?_eq, State.code?_eq]
          show (T.vm.method? g.method).bind _ = _
          rw [hal.method?]
        simp only [State.hears] at h ⊢
        rw [hcd]
        exact h
      | _ => simpa [State.hears, hm', X.method] using h
  · obtain ⟨th, hth, -⟩ := State.frames_cons hfr
    obtain ⟨th2, hth2, -⟩ := State.frames_cons hF
    have h := (State.sameButNew.refl (T.setFrames (.invoking m args :: below)) hth2).setFrames T.frames (State.cur_lt_of_frames hF)
    rw [State.setFrames_setFrames, State.setFrames_self hth] at h
    exact h
section NPT
variable {p : Program} {l : Launch} {e : Env} {R : Room} {s : State} {m : MethodId} {args : Array Value} {below : List Frame} {meth : Method} {c : Code} {H : Heap} {locs : List Loc} {cells slots : Nat} {Q : State → Prop}
variable {cc : ByteArray} {pc : Nat} {ls : Array Slot} {rest : List Value} {D : va_G} {cl : List vw_C} {tys : List (ClassId × FieldType)} {A : Nat → Prop} {Ts : List Cond} {own : String} {nL : Nat} {rm : Room} {wd : np_S → va_W} {σ : np_S} {gA : Nat → Nat}
set_option maxHeartbeats 4000000 in
/-- new E("text"); throw: the method ends with the exception; the world is as it was -/
theorem np_throw (C : np_Cx gA p R s m args c D cl tys A Ts own cc nL rm) (hall : np_good Ts) (htr : l.stackTraces = false) (hat : np_At D cl A wd s σ H locs) {Xn tx : String} {up : List String} {i0 i1 i2 qa : Nat} (hX : Bundle.fit Xn = true) (hup : ∀ n ∈ up, Bundle.fit n = true)
    (ha : ∀ w ∈ Bundle.ownAtoms own i2 Xn up, goodWord w = true → w ∈ Ts) (hb2 : ∀ w ∈ Bundle.ownAtoms own i2 Xn up, goodWord w = true ∨ w ∈ [Cond.laysStatic "java/lang/Throwable" "UNASSIGNED_STACK" "[Ljava/lang/StackTraceElement;", Cond.laysStatic "java/lang/Throwable" "SUPPRESSED_SENTINEL" "Ljava/util/List;", Cond.isRef (.static "java/lang/Throwable" "UNASSIGNED_STACK" "[Ljava/lang/StackTraceElement;"), Cond.isRef (.static "java/lang/Throwable" "SUPPRESSED_SENTINEL" "Ljava/util/List;")] ∨ (w ∈ np_cw ∧ w.onTables = true))
    (w1 : .classLink own i0 Xn ∈ Ts) (w2 : .initialized Xn ∈ Ts) (w3 : .instantiable Xn 6 ∈ Ts) (hstr : vk_R own i1 tx qa s)
    (d0 : decode cc pc = .ok (.new i0, 3)) (d1 : decode cc (pc + 3) = .ok (.dup, 1)) (d2 : decode cc (pc + 3 + 1) = .ok (.ldc i1, 2)) (d3 : decode cc (pc + 3 + 1 + 2) = .ok (.invokespecial i2, 3)) (d4 : decode cc (pc + 3 + 1 + 2 + 3) = .ok (.athrow, 1))
    (hls : ls.size = nL) (hno : c.exceptionTable.isEmpty = true) (hR : up.length + 3 < rm.frames ∧ 13 * (up.length + 1) + 43 ≤ rm.locals ∧ cells + 1 ≤ rm.cells ∧ slots + 6 ≤ rm.slots) (hlocks : meth.locks = false)
    (kk : ∀ (U : State) (a : Nat) (ce : Cell), U.status = .running → Ended U below (.threw a) → s.WarmedH U.vm → s.sameButNew ({ U with vm := s.vm } : State) locs (cells + 1) (slots + 6) → np_At D cl A wd s σ U.heap locs → U.heap[a]? = some ce → s.vm.findClass Xn = some ce.cls → ce.vm = .none → Q U) : W p l e R s m args below meth c H locs cells slots Q (F0 m pc ls []) := by
  intro T hT X
  obtain ⟨hR1, hR2, hR3, hR4⟩ := hR
  have hr := C.r
  subst hr
  have Y := np_rebase X (by omega) (by omega)
  have hW' : s.WarmedH (T.setFrames (.invoking m args :: below)).vm := X.warmed
  have hh' : (T.setFrames (.invoking m args :: below)).heap = H := hT
  have hts : ∀ w ∈ Ts, w.before args (T.setFrames (.invoking m args :: below)) = true := fun w hw => word_at hW' (hall w hw) (C.t w hw)
  have hE : np_E gA A (T.setFrames (.invoking m args :: below)) (T.setFrames (.invoking m args :: below)).heap := by
    rw [hh']
    exact (C.en.kept hat.2.2.2.1).warm hW'
  have hown : (T.setFrames (.invoking m args :: below)).vm.findClass own = some m.cls := by rw [hW'.alike.findClass]; exact C.o
  have htr' : e.platform.stackTraces = false := by rw [X.admits.platform]; exact htr
  have hat3 : ∀ w ∈ Bundle.ownAtoms own i2 Xn up, w.before args (T.setFrames (.invoking m args :: below)) = true := by
    intro w hw
    rcases hb2 w hw with h | h | h
    · exact hts w (ha w hw h)
    · simp only [List.mem_cons, List.not_mem_nil, or_false] at h
      rcases h with rfl | rfl | rfl | rfl
      · exact hE.2.2.2.2.1.lays
      · exact hE.2.2.2.2.2.1.lays
      · exact hE.2.2.2.2.1.isRef
      · exact hE.2.2.2.2.2.1.isRef
    · exact va_any h.2 (hE.2.2.2.2.2.2.2 w h.1)
  obtain ⟨vm₁, cX, kX, hfX, hkX, -, -, X₁, st1⟩ := Y.newCold C.x (own := own) (C := Xn) (index := i0) (n := 6) hown (hts _ w1) (hts _ w3) (hts _ w2) (g := F0 m pc ls []) rfl (by rw [C.b]; exact d0) (by show 0 + 1 ≤ R.cells - cells; omega) (by show 0 + 6 ≤ R.slots - slots; omega)
  generalize hT1 : (T.setVm vm₁).pushCell { cls := cX, slots := kX.instanceTypes.map defaultValue, vm := .none } = T1 at X₁ st1
  have hcellA : T1.heap[T.heap.size]? = some (freshCell cX kX) := by rw [← hT1]; exact State.heap_pushCell_size _ _
  have hlt : T.heap.size < T1.heap.size := (Array.getElem?_eq_some_iff.mp hcellA).1
  have K : W p l e { R with cells := R.cells - cells, slots := R.slots - slots } (T.setFrames (.invoking m args :: below)) m args below meth c T1.heap [] (0 + 1) (0 + 6) Q (F0 m (pc + 3) ls [.ref T.heap.size]) := by
    refine lv_dup C.x C.b d1 rfl ?_
    refine va_ldcS C.x C.b hown (hstr.warm hW') d2 ?_
    intro T2 hT2 X2
    obtain ⟨U, hsteps, hrun, hend, hWU, hsame, ce, hce, K⟩ := X2.ctorThrowS C.x htr' (own := own) (cls := Xn) (names := up) (ic := i2) hown hX hup hat3 (fun y hy => by cases hy) hfX hkX (a := T.heap.size) (by rw [hT2]; exact hcellA) (Nat.le_refl _) (msg := .ref qa) rfl
      (g := F0 m (pc + 3 + 1 + 2) ls [.ref qa, .ref T.heap.size, .ref T.heap.size]) rfl (hls.trans C.ml.symm) rfl rfl (rest := []) rfl (by rw [C.b]; exact d3) (by rw [C.b]; exact d4) (covers_of_empty hno _) (by show up.length + 3 < R.frames; exact hR1) (by show 2 * 0 + 1 + (13 * (up.length + 1) + 42) ≤ R.locals; omega) hlocks
    refine ⟨U, hsteps, ?_⟩
    have hWs : s.WarmedH U.vm := State.WarmedH.trans X.warmed hWU
    have hold : ∀ q : Nat, q < H.size → U.heap[q]? = H[q]? := by
      intro q hq
      have h1 : (T.setFrames (.invoking m args :: below)).heap[q]? = H[q]? := by rw [hh']
      obtain ⟨x, hx⟩ : ∃ x, H[q]? = some x := ⟨H[q], Array.getElem?_eq_getElem hq⟩
      rw [hx] at h1 ⊢
      exact State.sameButNew.old_cell hsame h1
    have hsz : H.size ≤ U.heap.size := by
      have h2 : (T.setFrames (.invoking m args :: below)).heap.size ≤ U.heap.size := hsame.2.1
      rw [hh'] at h2
      exact h2
    have h2 : T.sameButNew ({ U with vm := T.vm } : State) [] (0 + 1) (0 + 6) := by
      obtain ⟨e1, r1⟩ := hsame
      refine ⟨?_, r1⟩
      rw [State.setFrames_setFrames] at e1
      exact e1
    have h3 := X.same.trans (h2.setVm s.vm)
    rw [List.append_nil] at h3
    refine kk U T.heap.size ce hrun hend hWs h3 ⟨?_, hat.2.1, ?_⟩ hce ?_ K.vm
    · exact hat.1.kept (fun k q hq => hold q.1 ((hat.1 k q hq).lt))
    · exact ⟨Nat.le_trans hat.2.2.1 hsz, fun q h1 h2 => (hold q (Nat.lt_of_lt_of_le h1 hat.2.2.1)).trans (hat.2.2.2.1 q h1 h2), hat.2.2.2.2⟩
    · have h9 := K.cls
      rw [hW'.alike.findClass] at h9
      exact h9
  obtain ⟨t, a1, b1⟩ := K T1 rfl X₁
  exact ⟨t, st1 _ a1, b1⟩
end NPT
abbrev np_X : Type := Nat × np_O
def np_xn (k : Nat) : String := match k with
  | 1 => "java/lang/IllegalArgumentException"
  | 2 => "java/lang/IllegalStateException"
  | _ => "java/util/NoSuchElementException"
theorem np_ofW {l : Launch} {y : MethodName} {ws ws' : List Cond} {rm : Room} {Pc : Array Value → State → Prop} {Qc : Array Value → State → Outcome → State → Prop} {cc : ByteArray} {maxL : Nat} {ret : Option FieldType}
    (hy : plainName y.cls = true) (hw : ws = Cond.code y cc maxL ret :: ws')
    (body : ∀ p e s m args below meth c s₁, BodyLoose p l y (headSpec ws rm) cc maxL ret e s m args below meth c s₁ → c.maxLocals = maxL → Pc args s →
      W p l e (headSpec ws rm).room s m args below meth c s.heap [] 0 0 (fun t => ∃ o, t.status = .running ∧ Ended t below o ∧ Qc args s o t) (entryFrame m args maxL)) : MetFree l y (headSpec ws rm) Pc (fun _ _ _ _ _ => True) Qc := by
  refine MetFree.of_bodyS (code := cc) (maxLocals := maxL) (ret := ret) hy ?_ ?_
  · intro args s m h hn
    obtain ⟨meth, c, h1, h2, h3, h4, h5, h6, -, -⟩ := Cond.code_spec hn (atoms_spec (ws := ws) h _ (by rw [hw]; exact List.mem_cons_self))
    exact ⟨meth, c, h1, h2, h3, h4, h5, h6⟩
  · intro p e s m args below meth c s₁ B hml hP _
    have hh0 : s₁.heap = s.heap := by rw [B.state]; rfl
    obtain ⟨t, a1, o, b1, b2, b3⟩ := body p e s m args below meth c s₁ B hml hP s₁ hh0 (Stand.of_body B)
    exact ⟨t, o, a1, b1, b2, b3⟩
/-- how a method ends that throws: its exception, the world -/
def np_Qt (D : va_G) (cl : List vw_C) (tys : List (ClassId × FieldType)) (A : Nat → Prop) (wd : np_S → va_W) (o : np_X) : Array Value → State → Outcome → State → Prop := fun _ st oc t =>
  ∃ (a : Nat) (ce : Cell) (L : List Loc), oc = .threw a ∧ t.heap[a]? = some ce ∧ st.vm.findClass (np_xn o.1) = some ce.cls ∧ ce.vm = .none ∧ np_B D cl tys A wd o.2.2 t ∧ va_F A st t ∧ st.WarmedH t.vm ∧ st.sameButNew ({ t with vm := st.vm } : State) L 1 6 ∧ ∀ q ∈ L, A q.base
/-- the contract of a method that may throw: o.1 = 0, it answers o.2.1; else it throws np_xn o.1 -/
def np_Mx (gA : Nat → Nat) (l : Launch) (D : va_G) (cl : List vw_C) (tys : List (ClassId × FieldType)) (wd : np_S → va_W) (y : MethodName) (ws : List Cond) (rm : Room) (avs : List Value) (σ : np_S) (fy : Option np_X) : Prop :=
  ∀ (sz : Nat) (o : np_X), fy = some o →
    (o.1 = 0 → Met l y ws rm (va_Pc avs (np_Pre gA D cl tys wd σ sz)) (va_Qi (fun (r : Int32) (u : np_S) => r = np_i o.2.1 ∧ u = o.2.2) (np_B D cl tys (va_A (wd σ) sz) wd) (va_A (wd σ) sz)) 1 6 (va_A (wd σ) sz)) ∧
    (o.1 ≠ 0 → MetFree l y (headSpec ws rm) (va_Pc avs (np_Pre gA D cl tys wd σ sz)) (fun _ _ _ _ _ => True) (np_Qt D cl tys (va_A (wd σ) sz) wd o))
set_option maxHeartbeats 1000000 in
theorem np_mkx {gA : Nat → Nat} {l : Launch} {D : va_G} {cl : List vw_C} {tys : List (ClassId × FieldType)} {wd : np_S → va_W} {y : MethodName} {cc : ByteArray} {nL : Nat} {AL : List Cond} {rm : Room} {avs : List Value} {σ : np_S} {fy : Option np_X} (hy : plainName y.cls = true) (hlen : (lg_sl avs).length ≤ nL)
    (body : ∀ (o : np_X) (p : Program) (e : Env) (R : Room) (s : State) (m : MethodId) (args : Array Value) (below : List Frame) (meth : Method) (c : Code) (Q : State → Prop) (A : Nat → Prop) (ls : Array Slot), fy = some o → np_Cx gA p R s m args c D cl tys A AL y.cls cc nL rm → c.exceptionTable.isEmpty = true → meth.locks = false →
      (∀ (pc : Nat) (ls : Array Slot) (H : Heap) (locs : List Loc) (v : Int) {σ2 : np_S}, decode cc pc = .ok (.ireturn, 1) → some ((0 : Nat), v, σ2) = some o → np_At D cl A wd s σ2 H locs → W p l e R s m args below meth c H locs 0 0 Q (F0 m pc ls [.int (np_i v)])) →
      (∀ (k : Nat) (Xn : String) {σ2 : np_S} {locs : List Loc}, np_xn (k + 1) = Xn → some (k + 1, (0 : Int), σ2) = some o → ∀ (U : State) (a : Nat) (ce : Cell), U.status = .running → Ended U below (.threw a) → s.WarmedH U.vm → s.sameButNew ({ U with vm := s.vm } : State) locs (0 + 1) (0 + 6) → np_At D cl A wd s σ2 U.heap locs → U.heap[a]? = some ce → s.vm.findClass Xn = some ce.cls → ce.vm = .none → Q U) →
      np_At D cl A wd s σ s.heap [] → lv_has ls nL (lv_args 0 avs) → W p l e R s m args below meth c s.heap [] 0 0 Q (F0 m 0 ls [])) : np_Mx gA l D cl tys wd y (.code y cc nL (some .int) :: AL) rm avs σ fy := by
  intro sz o hfy
  constructor
  · intro h0
    refine Met.ofW (cc := cc) (maxL := nL) (ret := (some .int)) hy rfl ?_
    intro p e s m args below meth c s₁ B hml hv
    obtain ⟨rfl, hsz, hP, hK, hD0, hE⟩ := hv
    subst hsz
    have hts := atoms_spec (ws := .code y cc nL (some .int) :: AL) B.pre
    have hown : s.vm.findClass y.cls = some m.cls := findClass_of_methodNamed B.named
    have hlocks := B.notSynchronized
    rw [lg_entry_eq]
    have hC : np_Cx gA p (headSpec (.code y cc nL (some .int) :: AL) rm).room s m avs.toArray c D cl tys (va_A (wd σ) s.heap.size) AL y.cls cc nL rm := ⟨⟨B.exec, B.bytes, hml, hown, fun w hw => hts w (List.mem_cons_of_mem _ hw)⟩, hK, fun a h => Or.inr h, rfl, hE, np_noSt hP⟩
    refine body o p e _ s m _ below meth c _ (va_A (wd σ) s.heap.size) _ hfy hC (B.noHandlers (hts _ List.mem_cons_self)) hlocks (fun pc ls H locs v σ2 hdg ho hat => ?_) (fun k Xn σ2 locs hk ho => ?_) ⟨hP, hD0.self, va_S.rf⟩ (lv_entry avs hlen)
    · have ho := Option.some.inj ho
      subst ho
      refine W.widen (k := 1) (n := 6) (Nat.zero_le _) (Nat.zero_le _) ?_
      exact W.iret (v := np_i v) hC.x hC.b B.returns (fun t ht hW => ⟨⟨np_i v, σ2, rfl, ⟨rfl, rfl⟩, by rw [ht]; exact hat.1, va_K.moved hW.alike hK, hat.2.1⟩, hat.2.2.F ht⟩) hat.2.2.2.2 hdg hlocks
    · have ho := Option.some.inj ho
      subst ho
      exact absurd h0 (Nat.succ_ne_zero k)
  · intro h0
    refine np_ofW (cc := cc) (maxL := nL) (ret := (some .int)) hy rfl ?_
    intro p e s m args below meth c s₁ B hml hv
    obtain ⟨rfl, hsz, hP, hK, hD0, hE⟩ := hv
    subst hsz
    have hts := atoms_spec (ws := .code y cc nL (some .int) :: AL) B.pre
    have hown : s.vm.findClass y.cls = some m.cls := findClass_of_methodNamed B.named
    have hlocks := B.notSynchronized
    rw [lg_entry_eq]
    have hC : np_Cx gA p (headSpec (.code y cc nL (some .int) :: AL) rm).room s m avs.toArray c D cl tys (va_A (wd σ) s.heap.size) AL y.cls cc nL rm := ⟨⟨B.exec, B.bytes, hml, hown, fun w hw => hts w (List.mem_cons_of_mem _ hw)⟩, hK, fun a h => Or.inr h, rfl, hE, np_noSt hP⟩
    refine body o p e _ s m _ below meth c _ (va_A (wd σ) s.heap.size) _ hfy hC (B.noHandlers (hts _ List.mem_cons_self)) hlocks (fun pc ls H locs v σ2 hdg ho hat => ?_) (fun k Xn σ2 locs hk ho U a ce hrun hend hW hsame hat hce hcl hvm => ?_) ⟨hP, hD0.self, va_S.rf⟩ (lv_entry avs hlen)
    · have ho := Option.some.inj ho
      subst ho
      exact absurd rfl h0
    · have ho := Option.some.inj ho
      subst ho
      subst hk
      exact ⟨_, hrun, hend, a, ce, locs, rfl, hce, hcl, hvm, ⟨hat.1, va_K.moved hW.alike hK, hat.2.1⟩, hat.2.2.F rfl, hW, hsame, hat.2.2.2.2⟩
