def nx_N : String := "java/util/NoSuchElementException"
def nx_R : String := "java/lang/RuntimeException"
def nx_b : ByteArray := ⟨#[0x2a, 0x2b, 0xb7, 0x00, 0x0d, 0xb1]⟩
/-- the words that new NoSuchElementException("text") and its throw ask -/
def nx_at (own : String) (ic : Nat) : List Cond :=
  Bundle.throwableAtoms ++ Bundle.throwableSAtoms ++ Bundle.passSAtoms nx_N nx_R 13 nx_b ++ Bundle.chainSAtoms nx_R ["java/lang/Exception"] ++
  [.methodLink own ic (Bundle.initS nx_N), .instantiable nx_N 6, .castable nx_N nx_N, .selects nx_N Bundle.tFill0 Bundle.tFill0, .selects nx_N Bundle.tFill Bundle.tFill,
   .lays nx_N Bundle.tN "cause" "Ljava/lang/Throwable;", .lays nx_N Bundle.tN "stackTrace" Bundle.steD, .lays nx_N Bundle.tN "suppressedExceptions" Bundle.listD, .lays nx_N Bundle.tN "detailMessage" "Ljava/lang/String;",
   .isRef (.static Bundle.tN "UNASSIGNED_STACK" Bundle.steD), .isRef (.static Bundle.tN "SUPPRESSED_SENTINEL" Bundle.listD),
   .fieldLink Bundle.tN 198 Bundle.tN "backtrace" "Ljava/lang/Object;", .lays Bundle.tN Bundle.tN "backtrace" "Ljava/lang/Object;", .lays nx_N Bundle.tN "backtrace" "Ljava/lang/Object;"]
section NXC
variable {p : Program} {l : Launch} {e : Env} {R : Room} {s : State} {m₀ : MethodId} {args : Array Value} {below : List Frame} {meth : Method} {c : Code} {W : State} {cells slots : Nat}
set_option maxHeartbeats 4000000 in
theorem nx_ctor (X : Stand p l e R s m₀ args below meth c W [] cells slots) (hexec : p.tables.exec = Jvm.exec) (htr : e.platform.stackTraces = false) {own : String} {ic : Nat} (hown : s.vm.findClass own = some m₀.cls)
    (hat : ∀ a ∈ nx_at own ic, a.before args s = true) {a : Addr} {cX : ClassId} {kX : Class} (hfX : s.vm.findClass nx_N = some cX) (hkX : s.vm.classes[cX]? = some kX) (hcell : W.heap[a]? = some (freshCell cX kX)) (hnew : s.heap.size ≤ a) {msg : Value} (hmsg : msg.isRef = true)
    {g : JFrame} (hg : g.method = m₀) (hsize : g.locals.size = c.maxLocals) (hlocked : g.locked = none) (hentered : g.entered = []) {rest : List Value} (hstack : g.stack = msg :: .ref a :: .ref a :: rest)
    (hd6 : decode c.code g.pc = .ok (.invokespecial ic, 3)) (hd9 : decode c.code (g.pc + 3) = .ok (.athrow, 1)) (hout : ∀ x ∈ c.exceptionTable.toList, covers x (g.pc + 3) = false)
    (hRf : 5 < R.frames) (hRl : 2 * g.monitorRoom + ((Value.ref a :: rest).map fun v => v.category).sum + 81 ≤ R.locals) (hlocks : meth.locks = false) :
    ∃ U : State, Steps p.tables e below (W.setTop g) U ∧ U.status = .running ∧ Ended U below (.threw a) ∧ s.WarmedH U.vm ∧ s.sameButNew ({ U with vm := s.vm } : State) [] cells slots ∧ ∃ ce, U.heap[a]? = some ce ∧ s.vm.findClass nx_N = some ce.cls ∧ ce.vm = .none := by
  have hpl : e.platform.magicAccessors = ({} : Platform).magicAccessors := by rw [X.admits.platform]
  have hh : ∀ x, x ∈ nx_at own ic → x.holds args s none s [] = true := fun x hx => hat x hx
  obtain ⟨T, Z0, L, -, Y⟩ := ThrowableC.of_atoms (args := args) (pl := e.platform) (s := s) (by rw [X.admits.platform]) (by rw [X.admits.platform]) hpl (fun x hx => hat x (by simp [nx_at, hx]))
  obtain ⟨Z, M, LZ, LM, hnZ⟩ := Init0T.ofS_atoms (args := args) hpl L Y (fun x hx => hat x (by simp [nx_at, hx]))
  obtain ⟨P1, Ps, hlen, L1, hL, hP1m, hk1, hk2⟩ := Bundle.chainS (args := args) hpl hnZ ["java/lang/Exception"] nx_R (by decide +kernel) (by decide +kernel) (fun x hx => hat x (by simp [nx_at, hx]))
  obtain ⟨P0, L0, hP0m, hP0s⟩ := PassC.ofS_atoms (args := args) (s := s) hpl (X := nx_N) (Y := nx_R) (index := 13) (bytes := nx_b) (by decide +kernel) (by decide +kernel) (by decide +kernel) (by decide +kernel) (by decide +kernel) (by decide +kernel) (fun x hx => hat x (by simp [nx_at, hx]))
  have hlink0 : P0.sup = P1.m := Option.some.inj (hP0s.symm.trans hP1m)
  have hf0 : s.vm.findClass nx_N = some P0.m.cls := findClass_of_methodNamed hP0m
  cases Option.some.inj (hfX.symm.trans hf0)
  obtain ⟨cI, kI, hcI, hkI, hord, -, -, -⟩ := Cond.instantiable_spec (hh (.instantiable nx_N 6) (by simp [nx_at]))
  cases Option.some.inj (hcI.symm.trans hf0)
  cases Option.some.inj (hkX.symm.trans hkI)
  -- fillInStackTrace is Throwable's own, both of them
  have hsel : ∀ (y : MethodName) (my : MethodId), (y.cls ≠ "java/lang/invoke/MethodHandle" ∧ y.cls ≠ "java/lang/invoke/VarHandle") → Cond.selects nx_N y y ∈ nx_at own ic → s.methodNamed? y = some my → selectMethod e.platform s.vm P0.m.cls my = .method my := by
    intro y my hy hin hn
    obtain ⟨c2, r2, m2, q1, q2, q3, q4, -⟩ := Cond.selects_spec (hh _ hin)
    cases Option.some.inj (q1.symm.trans hf0)
    cases Option.some.inj (q2.symm.trans (State.methodFound?_of_named hn hy))
    cases Option.some.inj (q3.symm.trans hn)
    rw [Launch.admits_selectMethod X.admits]
    exact q4
  have hs0 := hsel Bundle.tFill0 T.fill0 (by decide) (by simp [nx_at]) Y.fill0
  have hs1 := hsel Bundle.tFill T.fill (by decide) (by simp [nx_at]) Y.fill
  -- the two statics
  obtain ⟨cS, hcS, hiS⟩ := Y.statics
  obtain ⟨u0, hu0⟩ := Cond.staticRefV Y.unassigned L.unassignedStatic L.statics hcS hiS (hh (.isRef (.static Bundle.tN "UNASSIGNED_STACK" Bundle.steD)) (by simp [nx_at]))
  obtain ⟨sen, hsen⟩ := Cond.staticRefV Y.sentinel L.sentinelStatic L.statics hcS hiS (hh (.isRef (.static Bundle.tN "SUPPRESSED_SENTINEL" Bundle.listD)) (by simp [nx_at]))
  have hcSW : W.heap[T.aS]? = some cS := State.sameButNew.old_cell X.same hcS
  have hneS : T.aS ≠ a := Nat.ne_of_lt (Nat.lt_of_lt_of_le (Array.getElem?_eq_some_iff.mp hcS).1 hnew)
  have hkS : cS.vm ≠ .unknown := fun q => by rw [q] at hiS; cases hiS
  -- where the class lays Throwable's fields
  obtain ⟨ciB, iB, fB, hB1, hB2, hB3, hB4, -, hB5, hB6, hB7⟩ := Cond.ownField (t := .object "java/lang/Object") Y.found L.cls (by decide +kernel) (hh (.fieldLink Bundle.tN 198 Bundle.tN "backtrace" "Ljava/lang/Object;") (by simp [nx_at])) (hh (.lays Bundle.tN Bundle.tN "backtrace" "Ljava/lang/Object;") (by simp [nx_at])) e.platform hpl
  obtain ⟨iM, hfM⟩ := Y.msg
  obtain ⟨tC, dC, eC, nC⟩ := Cond.laysAt hf0 hkI Y.cause (hh (.lays nx_N Bundle.tN "cause" "Ljava/lang/Throwable;") (by simp [nx_at]))
  obtain ⟨tS, dS, eS, nS⟩ := Cond.laysAt hf0 hkI Y.stack (hh (.lays nx_N Bundle.tN "stackTrace" Bundle.steD) (by simp [nx_at]))
  obtain ⟨tP, dP, eP, nP⟩ := Cond.laysAt hf0 hkI Y.supp (hh (.lays nx_N Bundle.tN "suppressedExceptions" Bundle.listD) (by simp [nx_at]))
  obtain ⟨tM, dM, eM, nM⟩ := Cond.laysAt hf0 hkI hfM (hh (.lays nx_N Bundle.tN "detailMessage" "Ljava/lang/String;") (by simp [nx_at]))
  obtain ⟨tB, dB, eB, nB⟩ := Cond.laysAt hf0 hkI hB7 (hh (.lays nx_N Bundle.tN "backtrace" "Ljava/lang/Object;") (by simp [nx_at]))
  have zC := Cond.laysApart eB eC nB nC (by rw [hB5, Y.causeName]; decide)
  have zS := Cond.laysApart eB eS nB nS (by rw [hB5, Y.stackName]; decide)
  have zP := Cond.laysApart eB eP nB nP (by rw [hB5, Y.suppName]; decide)
  have hskip : SkipFacts T e.platform s (fun u => u) u0 ((preparedCellV T.toThrowableT (freshCell P0.m.cls kX) a u0 sen).withEntry W.cur) :=
    ⟨{ ci198 := ciB, i198 := iB, fBack := fB }, ⟨hB1, hB2, hB3, hB4⟩, by
      have q := fresh_default (c := P0.m.cls) tB
      rw [hB6] at q
      simpa [preparedCellV, Cell.setSlot, Cell.withEntry, Array.getElem?_setIfInBounds, zC, zS, zP, zC.symm, zS.symm, zP.symm, defaultValue] using q, fun _ _ => rfl⟩
  -- the machine: the constructors, then athrow
  obtain ⟨tm, methC, cdC, kC, vm₁, hnC, -, -, -, -, -, -, -, hW₁, st1⟩ := Steps.initColdS (tb := p.tables) (e := e) (below := below) (s := s) (U := W) X.here hexec X.warmed hpl hown (t := Bundle.initS nx_N) rfl rfl (by decide) (hh (.methodLink own ic (Bundle.initS nx_N)) (by simp [nx_at]))
    (hat (.instanceMethod (Bundle.initS nx_N)) (by simp [nx_at, Bundle.passSAtoms])) (bytes := nx_b) (maxL := 2) (hat (.code (Bundle.initS nx_N) nx_b 2 none) (by simp [nx_at, Bundle.passSAtoms])) (f := g) hg (a := a) (msg := msg) (rest := .ref a :: rest) hstack hd6
  cases Option.some.inj (hnC.symm.trans hP0m)
  have X₁ := X.noted hW₁
  obtain ⟨vm₂, X₂, st2⟩ := X₁.ctorMessageOffV hexec (g := { g with stack := .ref a :: rest }) hg hsize T L Z LZ M LM (P0 :: P1 :: Ps)
    (fun P hP => by
      rcases List.mem_cons.mp hP with rfl | hP
      · exact L0
      · rcases List.mem_cons.mp hP with rfl | hP
        · exact L1
        · exact hL P hP) ⟨hlink0, hk1, hk2⟩ (u0 := u0) (sen := sen) (self := a) hmsg (cell := freshCell P0.m.cls kX) (cellS := cS)
    hcell (fun _ => by simp) (by simp) rfl rfl hs0 hs1 hcSW hneS hkS hu0 hsen
    (Takes.of_laid hkI hord tC (by rw [Y.causeType]; rfl)) (Takes.of_laid hkI hord tS (by rw [Y.stackType]; exact fits_refV_array _ u0)) (Takes.of_laid hkI hord tP (by rw [Y.suppType]; exact fits_refV_object _ sen))
    (Takes.of_laid hkI hord tM (by rw [Y.msgType]; exact fits_refV_object _ ⟨msg, hmsg⟩)) Y.objLocals hskip htr [] hd6
    (by simp only [List.length_cons, hlen, List.length_nil]; omega) (by simp only [List.length_cons, hlen, List.length_nil]; exact hRl)
  obtain ⟨hwalk, hrun, hended, hWU, hsame⟩ := X₂.athrowLeaves hexec (g := { g with stack := .ref a :: rest, pc := g.pc + 3 }) hg hlocked hentered hout (a := a) (rest := rest) rfl hd9 hlocks
  have hlt : a < ((W.setVm vm₁).setVm vm₂).heap.size := (Array.getElem?_eq_some_iff.mp hcell).1
  refine ⟨_, st1 _ (fun acts => ?_), hrun, hended, hWU, hsame.weaken (fun y hy hlt' => ?_) (Nat.le_refl _) (Nat.le_refl _), _, heapAt_setCell_self (s := (W.setVm vm₁).setVm vm₂) (plainBareV T.toThrowableT (freshCell P0.m.cls kX) a u0 sen msg) hlt, hf0, rfl⟩
  · rw [doInvoke_state]
    exact st2 _ hwalk
  · exfalso
    have hb : y.base = a := by
      simp only [List.nil_append, List.mem_cons, List.not_mem_nil, or_false] at hy
      rcases hy with rfl | rfl | rfl | rfl | rfl <;> rfl
    rw [hb] at hlt'
    exact Nat.not_lt.mpr hnew hlt'
end NXC
section NPU
variable {p : Program} {l : Launch} {e : Env} {R : Room} {s : State} {m : MethodId} {args : Array Value} {below : List Frame} {meth : Method} {c : Code} {H : Heap} {locs : List Loc} {cells slots : Nat} {Q : State → Prop}
variable {cc : ByteArray} {pc : Nat} {ls : Array Slot} {rest : List Value} {D : va_G} {cl : List vw_C} {tys : List (ClassId × FieldType)} {A : Nat → Prop} {Ts : List Cond} {own : String} {nL : Nat} {rm : Room} {wd : np_S → va_W} {σ : np_S} {gA : Nat → Nat}
set_option maxHeartbeats 4000000 in
/-- new E("text"); throw: the method ends with the exception; the world is as it was -/
theorem np_throwN (C : np_Cx gA p R s m args c D cl tys A Ts own cc nL rm) (hall : np_good Ts) (htr : l.stackTraces = false) (hat : np_At D cl A wd s σ H locs) {tx : String} {i0 i1 i2 qa : Nat}
    (ha : ∀ w ∈ nx_at own i2, goodWord w = true → w ∈ Ts) (hb2 : ∀ w ∈ nx_at own i2, goodWord w = true ∨ w ∈ [Cond.laysStatic "java/lang/Throwable" "UNASSIGNED_STACK" "[Ljava/lang/StackTraceElement;", Cond.laysStatic "java/lang/Throwable" "SUPPRESSED_SENTINEL" "Ljava/util/List;", Cond.isRef (.static "java/lang/Throwable" "UNASSIGNED_STACK" "[Ljava/lang/StackTraceElement;"), Cond.isRef (.static "java/lang/Throwable" "SUPPRESSED_SENTINEL" "Ljava/util/List;")] ∨ (w ∈ np_cw ∧ w.onTables = true))
    (w1 : .classLink own i0 nx_N ∈ Ts) (w2 : .initialized nx_N ∈ Ts) (w3 : .instantiable nx_N 6 ∈ Ts) (hstr : vk_R own i1 tx qa s)
    (d0 : decode cc pc = .ok (.new i0, 3)) (d1 : decode cc (pc + 3) = .ok (.dup, 1)) (d2 : decode cc (pc + 3 + 1) = .ok (.ldc i1, 2)) (d3 : decode cc (pc + 3 + 1 + 2) = .ok (.invokespecial i2, 3)) (d4 : decode cc (pc + 3 + 1 + 2 + 3) = .ok (.athrow, 1))
    (hls : ls.size = nL) (hno : c.exceptionTable.isEmpty = true) (hR : 5 < rm.frames ∧ 82 ≤ rm.locals ∧ cells + 1 ≤ rm.cells ∧ slots + 6 ≤ rm.slots) (hlocks : meth.locks = false)
    (kk : ∀ (U : State) (a : Nat) (ce : Cell), U.status = .running → Ended U below (.threw a) → s.WarmedH U.vm → s.sameButNew ({ U with vm := s.vm } : State) locs (cells + 1) (slots + 6) → np_At D cl A wd s σ U.heap locs → U.heap[a]? = some ce → s.vm.findClass nx_N = some ce.cls → ce.vm = .none → Q U) : W p l e R s m args below meth c H locs cells slots Q (F0 m pc ls []) := by
  intro T hT X
  obtain ⟨hR1, hR2, hR3, hR4⟩ := hR
  have hr := C.r
  subst hr
  have Y := np_rebase X (by omega) (by omega)
  have hW' : s.WarmedH (T.setFrames (.invoking m args :: below)).vm := X.warmed
  have hh' : (T.setFrames (.invoking m args :: below)).heap = H := hT
  have hts : ∀ w ∈ Ts, w.before args (T.setFrames (.invoking m args :: below)) = true := fun w hw => word_at hW' (hall w hw) (C.t w hw)
  have hE : np_E gA A (T.setFrames (.invoking m args :: below)) (T.setFrames (.invoking m args :: below)).heap := by
    rw [hh']
    exact (C.en.kept hat.2.2.2.1).warm hW'
  have hown : (T.setFrames (.invoking m args :: below)).vm.findClass own = some m.cls := by rw [hW'.alike.findClass]; exact C.o
  have htr' : e.platform.stackTraces = false := by rw [X.admits.platform]; exact htr
  have hat3 : ∀ w ∈ nx_at own i2, w.before args (T.setFrames (.invoking m args :: below)) = true := by
    intro w hw
    rcases hb2 w hw with h | h | h
    · exact hts w (ha w hw h)
    · simp only [List.mem_cons, List.not_mem_nil, or_false] at h
      rcases h with rfl | rfl | rfl | rfl
      · exact hE.2.2.2.2.1.lays
      · exact hE.2.2.2.2.2.1.lays
      · exact hE.2.2.2.2.1.isRef
      · exact hE.2.2.2.2.2.1.isRef
    · exact va_any h.2 (hE.2.2.2.2.2.2.2 w h.1)
  obtain ⟨vm₁, cX, kX, hfX, hkX, -, -, X₁, st1⟩ := Y.newCold C.x (own := own) (C := nx_N) (index := i0) (n := 6) hown (hts _ w1) (hts _ w3) (hts _ w2) (g := F0 m pc ls []) rfl (by rw [C.b]; exact d0) (by show 0 + 1 ≤ R.cells - cells; omega) (by show 0 + 6 ≤ R.slots - slots; omega)
  generalize hT1 : (T.setVm vm₁).pushCell { cls := cX, slots := kX.instanceTypes.map defaultValue, vm := .none } = T1 at X₁ st1
  have hcellA : T1.heap[T.heap.size]? = some (freshCell cX kX) := by rw [← hT1]; exact State.heap_pushCell_size _ _
  have hlt : T.heap.size < T1.heap.size := (Array.getElem?_eq_some_iff.mp hcellA).1
  have K : W p l e { R with cells := R.cells - cells, slots := R.slots - slots } (T.setFrames (.invoking m args :: below)) m args below meth c T1.heap [] (0 + 1) (0 + 6) Q (F0 m (pc + 3) ls [.ref T.heap.size]) := by
    refine lv_dup C.x C.b d1 rfl ?_
    refine va_ldcS C.x C.b hown (hstr.warm hW') d2 ?_
    intro T2 hT2 X2
    obtain ⟨U, hsteps, hrun, hend, hWU, hsame, ce, hce, hKc, hKv⟩ := nx_ctor X2 C.x htr' (own := own) (ic := i2) hown hat3 hfX hkX (a := T.heap.size) (by rw [hT2]; exact hcellA) (Nat.le_refl _) (msg := .ref qa) rfl
      (g := F0 m (pc + 3 + 1 + 2) ls [.ref qa, .ref T.heap.size, .ref T.heap.size]) rfl (hls.trans C.ml.symm) rfl rfl (rest := []) rfl (by rw [C.b]; exact d3) (by rw [C.b]; exact d4) (covers_of_empty hno _) hR1 (by show 2 * 0 + 1 + 81 ≤ R.locals; omega) hlocks
    refine ⟨U, hsteps, ?_⟩
    have hWs : s.WarmedH U.vm := State.WarmedH.trans X.warmed hWU
    have hold : ∀ q : Nat, q < H.size → U.heap[q]? = H[q]? := by
      intro q hq
      have h1 : (T.setFrames (.invoking m args :: below)).heap[q]? = H[q]? := by rw [hh']
      obtain ⟨x, hx⟩ : ∃ x, H[q]? = some x := ⟨H[q], Array.getElem?_eq_getElem hq⟩
      rw [hx] at h1 ⊢
      exact State.sameButNew.old_cell hsame h1
    have hsz : H.size ≤ U.heap.size := by
      have h2 : (T.setFrames (.invoking m args :: below)).heap.size ≤ U.heap.size := hsame.2.1
      rw [hh'] at h2
      exact h2
    have h2 : T.sameButNew ({ U with vm := T.vm } : State) [] (0 + 1) (0 + 6) := by
      obtain ⟨e1, r1⟩ := hsame
      refine ⟨?_, r1⟩
      rw [State.setFrames_setFrames] at e1
      exact e1
    have h3 := X.same.trans (h2.setVm s.vm)
    rw [List.append_nil] at h3
    refine kk U T.heap.size ce hrun hend hWs h3 ⟨?_, hat.2.1, ?_⟩ hce ?_ hKv
    · exact hat.1.kept (fun k q hq => hold q.1 ((hat.1 k q hq).lt))
    · exact ⟨Nat.le_trans hat.2.2.1 hsz, fun q h1 h2 => (hold q (Nat.lt_of_lt_of_le h1 hat.2.2.1)).trans (hat.2.2.2.1 q h1 h2), hat.2.2.2.2⟩
    · have h9 := hKc
      rw [hW'.alike.findClass] at h9
      exact h9
  obtain ⟨t, a1, b1⟩ := K T1 rfl X₁
  exact ⟨t, st1 _ a1, b1⟩
end NPU
