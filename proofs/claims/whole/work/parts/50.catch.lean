/-! a handler's class, resolved for the first time -/
theorem np_go_cold {E : CtlPost} {e : Env} {d : Bool} {acts : List Action} {s : State} {f : JFrame} {a : Addr} {Q : Handler → Pre} {x : ExceptionTableEntry} {t : List ExceptionTableEntry} {c : ClassId} {cell : Cell} {vm' : Vm} (hx : covers x f.pc = true) (h0 : x.catchType ≠ 0) (hg : (Jvm.resolveClass f.method.cls x.catchType).Gives e.toSetting s.vm (.ok c) vm') (hsz : vm'.classes.size ≤ s.vm.classes.size) (hcell : s.heap[a]? = some cell) (hobj : ∀ k, cell.vm ≠ .statics k) (hk : ∃ k, vm'.classes[cell.cls]? = some k) (hc : ∃ k, vm'.classes[c]? = some k) :
    wp (findHandler.go f a (x :: t)) Q E e d acts s ↔ if vm'.assignable cell.cls c = true then Q (.found x.handlerPc) d acts (s.setVm vm') else wp (findHandler.go f a t) Q E e d acts (s.setVm vm') := by
  simp only [covers] at hx
  obtain ⟨h1, h2⟩ : (VmOp.resolveClass f.method.cls x.catchType).answer e s.vm = .ok c ∧ (VmOp.resolveClass f.method.cls x.catchType).tables e s.vm = vm' := hg.op rfl
  have h3 : (VmOp.resolveClass f.method.cls x.catchType).lands e s = .done (s.setVm vm') := VmOp.lands_eq h2 hsz
  have hcell' : (s.setVm vm').heap[a]? = some cell := hcell
  have hk' : ∃ k, (s.setVm vm').vm.classes[cell.cls]? = some k := hk
  have hc' : ∃ k, (s.setVm vm').vm.classes[c]? = some k := hc
  cases hfit : vm'.assignable cell.cls c <;>
    simp [findHandler.go, hx, h0, h1, h3, hcell, hobj, hk, hc, hfit, VmOp.dirties, VmOp.acts]
/-- what the search gives, and the tables behind it -/
def np_FT (e : Env) (s : State) (f : JFrame) (a : Addr) (h : Handler) (vm' : Vm) : Prop := ∀ (Q : Handler → Pre) (E : CtlPost) (d : Bool) (acts : List Action), wp (findHandler f a) Q E e d acts s ↔ Q h d acts (s.setVm vm')
theorem np_find1 {e : Env} {s : State} {f : JFrame} {a : Addr} {meth : Method} {code : Code} (hm : s.vm.method? f.method = some meth) (hcd : meth.code = some code) {x : ExceptionTableEntry} {t : List ExceptionTableEntry} (ht : code.exceptionTable.toList = x :: t) {c : ClassId} {cell : Cell} {vm' : Vm} (hx : covers x f.pc = true) (h0 : x.catchType ≠ 0) (hg : (Jvm.resolveClass f.method.cls x.catchType).Gives e.toSetting s.vm (.ok c) vm') (hsz : vm'.classes.size ≤ s.vm.classes.size) (hcell : s.heap[a]? = some cell) (hobj : ∀ k, cell.vm ≠ .statics k) (hk : ∃ k, vm'.classes[cell.cls]? = some k) (hc : ∃ k, vm'.classes[c]? = some k) (hfit : vm'.assignable cell.cls c = true) : np_FT e s f a (.found x.handlerPc) vm' := by
  intro Q E d acts
  rw [W.findHandler_eq hm hcd, ht, np_go_cold hx h0 hg hsz hcell hobj hk hc, if_pos hfit]
theorem np_find2 {e : Env} {s : State} {f : JFrame} {a : Addr} {meth : Method} {code : Code} (hm : s.vm.method? f.method = some meth) (hcd : meth.code = some code) {x y : ExceptionTableEntry} {t : List ExceptionTableEntry} (ht : code.exceptionTable.toList = x :: y :: t) {c c2 : ClassId} {cell : Cell} {vm1 vm' : Vm} (hx : covers x f.pc = true) (h0 : x.catchType ≠ 0) (hg : (Jvm.resolveClass f.method.cls x.catchType).Gives e.toSetting s.vm (.ok c) vm1) (hsz : vm1.classes.size ≤ s.vm.classes.size) (hcell : s.heap[a]? = some cell) (hobj : ∀ k, cell.vm ≠ .statics k) (hk : ∃ k, vm1.classes[cell.cls]? = some k) (hc : ∃ k, vm1.classes[c]? = some k) (hno : vm1.assignable cell.cls c = false)
    (hy : covers y f.pc = true) (h1 : y.catchType ≠ 0) (hg2 : (Jvm.resolveClass f.method.cls y.catchType).Gives e.toSetting vm1 (.ok c2) vm') (hsz2 : vm'.classes.size ≤ vm1.classes.size) (hk2 : ∃ k, vm'.classes[cell.cls]? = some k) (hc2 : ∃ k, vm'.classes[c2]? = some k) (hfit : vm'.assignable cell.cls c2 = true) : np_FT e s f a (.found y.handlerPc) vm' := by
  intro Q E d acts
  rw [W.findHandler_eq hm hcd, ht, np_go_cold hx h0 hg hsz hcell hobj hk hc, if_neg (by rw [hno]; decide), np_go_cold (s := s.setVm vm1) hy h1 hg2 hsz2 hcell hobj hk2 hc2, if_pos hfit]
  rfl
theorem np_step_catch {e : Env} {s : State} {a : Addr} {f : JFrame} {r : List Frame} {pc : Nat} {vm' : Vm} (hfind : np_FT e s f a (.found pc) vm') :
    (stepThrowing e s a (.java f :: r)).Is ((s.setVm vm').setFrames (.java { f with pc := pc, stack := [.ref a] } :: r)) [] := by
  simp only [stepThrowing, searchFrame, vmDo]
  generalize hr : Sem.go _ e false [] s = res
  obtain ⟨as, rfl, ha⟩ := Sem.eq_ok_of hr (a := Handler.found pc) (s' := s.setVm vm') (acts' := []) (by simp [hfind _ _ _ _])
  exact ⟨rfl, ha⟩
theorem np_caught {tb : Tables} {e : Env} {s target : State} {g : JFrame} {c : Code} {below : List Frame} {a : Addr} (h : At s g.method c below) {pc : Nat} {vm' : Vm} (hfind : np_FT e ((s.setTop g).pushFrame (.throwing a)) g a (.found pc) vm')
    (hrest : Steps tb e below ((s.setVm vm').setTop { g with pc := pc, stack := [.ref a] }) target) :
    Steps tb e below ((s.setTop g).pushFrame (.throwing a)) target := by
  obtain ⟨hgo, hw⟩ := h.throwing a
  refine Steps.head hgo hw ?_
  rw [stepThread_throwing (frames_entered h.top _), (np_step_catch hfind).1]
  obtain ⟨g₀, hg⟩ := Option.isSome_iff_exists.mp h.top
  obtain ⟨r, hr⟩ := State.topJava?_eq_some.mp hg
  have hr' : (s.setVm vm').frames = .java g₀ :: r := hr
  rw [State.setTop_of_frames _ hr'] at hrest
  rw [hr]
  have e1 : (((s.setTop g).pushFrame (.throwing a)).setVm vm').setFrames (.java { g with pc := pc, stack := [.ref a] } :: r) = (s.setVm vm').setFrames (.java { g with pc := pc, stack := [.ref a] } :: r) := by
    show (((s.setTop g).pushFrame (.throwing a)).setFrames (.java { g with pc := pc, stack := [.ref a] } :: r)).setVm vm' = (s.setFrames (.java { g with pc := pc, stack := [.ref a] } :: r)).setVm vm'
    rw [State.pushFrame, State.setFrames_setFrames, State.setTop_of_frames _ hr, State.setFrames_setFrames]
  show Steps tb e below ((((s.setTop g).pushFrame (.throwing a)).setVm vm').setFrames (.java { g with pc := pc, stack := [.ref a] } :: r)) target
  rw [e1]
  exact hrest
section NPK
variable {p : Program} {l : Launch} {e : Env} {R : Room} {s : State} {m : MethodId} {args : Array Value} {below : List Frame} {meth : Method} {c : Code} {H : Heap} {locs : List Loc} {cells slots : Nat} {Q : State → Prop}
variable {cc : ByteArray} {pc : Nat} {ls : Array Slot} {rest : List Value} {D : va_G} {cl : List vw_C} {tys : List (ClassId × FieldType)} {A : Nat → Prop} {Ts : List Cond} {own : String} {nL : Nat} {rm : Room} {wd : np_S → va_W} {σ : np_S} {gA : Nat → Nat}
set_option maxHeartbeats 4000000 in
/-- a call of a method that throws, into a handler of the caller's own -/
theorem np_callT (C : np_Cx gA p R s m args c D cl tys A Ts own cc nL rm) {y : MethodName} {bytes : ByteArray} {maxL index nA : Nat} {ret : Option FieldType} {rmy : Room} {As st : List Value} {a hpc : Nat} {o : np_X} (hM : MetFree l y (headSpec (.code y bytes maxL ret :: Ts) rmy) (va_Pc (.ref a :: As) (np_Pre gA D cl tys wd σ H.size)) (fun _ _ _ _ _ => True) (np_Qt D cl tys (va_A (wd σ) H.size) wd o)) (hall : np_good Ts) (w1 : .methodLink own index y ∈ Ts) (w2 : .instanceMethod y ∈ Ts) (w3 : .selects y.cls y y ∈ Ts) (w4 : .initialized y.cls ∈ Ts) (w5 : .code y bytes maxL ret ∈ Ts) (hd : y.cls ≠ "java/lang/invoke/MethodHandle" ∧ y.cls ≠ "java/lang/invoke/VarHandle" ∧ (parseMethodDescriptor y.desc).map (fun d => d.parameters.length) = some nA) (hnA : As.length = nA) (hR : rmy.cells = 1 ∧ rmy.slots = 6 ∧ rmy.frames + 1 ≤ rm.frames ∧ 8 + (maxL + 11) + rmy.locals ≤ rm.locals) (hf : cells + 1 ≤ rm.cells ∧ slots + 6 ≤ rm.slots)
    (hrecv : ∃ cell : Cell, H[a]? = some cell ∧ cell.vm.isStatics = false ∧ s.vm.findClass y.cls = some cell.cls) (hat : np_At D cl A wd s σ H locs) (hst : st = As.reverse ++ .ref a :: rest) (hls : ls.size = nL) (hrest : (rest.map fun v => v.category).sum ≤ 8) (hdg : decode cc pc = .ok (.invokevirtual index, 3))
    (hfind : l.admits e → ∀ (T' : State) (x : Nat) (ce : Cell), T'.vm.method? m = some meth → s.WarmedH T'.vm → T'.heap[x]? = some ce → s.vm.findClass (np_xn o.1) = some ce.cls → ce.vm = .none → ∃ vm', s.WarmedH vm' ∧ np_FT e T' (F0 m pc ls rest) x (.found hpc) vm')
    (kk : ∀ (x : Nat) (H : Heap) (locs : List Loc), np_At D cl A wd s o.2.2 H locs → W p l e R s m args below meth c H locs (cells + 1) (slots + 6) Q (F0 m hpc ls [.ref x])) : W p l e R s m args below meth c H locs cells slots Q (F0 m pc ls st) := by
  have hFc := np_freeA C hat
  subst hst
  have hr := C.r
  subst hr
  intro T hT X
  obtain ⟨mk, methM, hnamed, hmethM, hstM, habM⟩ := Cond.instanceMethod_spec (C.t _ w2)
  obtain ⟨methM', cM, hmethM', -, -, -, -, -, -, hsigM⟩ := Cond.code_spec hnamed (C.t _ w5)
  cases hmethM.symm.trans hmethM'
  obtain ⟨c2, r2, m2, q1, q2, q3, q4, kP, hkP, hkPi⟩ := Cond.selects_spec (C.t _ w3)
  obtain ⟨cellB, hcB, hoB, hclB⟩ := hrecv
  cases hclB.symm.trans q1
  cases (State.methodFound?_of_named hnamed ⟨hd.1, hd.2.1⟩).symm.trans q2
  cases hnamed.symm.trans q3
  have hselP : selectMethod e.platform s.vm cellB.cls mk = .method mk := by rw [Launch.admits_selectMethod X.admits]; exact q4
  have hlen : As.length = methM.sig.parameters.length := by
    have h2 := hd.2.2
    rw [hsigM] at h2
    exact hnA.trans (Option.some.inj h2).symm
  obtain ⟨vm₁, X₁, hstep₁⟩ := X.invokevirtual C.x C.o (C.t _ w1) hnamed hmethM hstM hkP hkPi ⟨hd.1, hd.2.1⟩ (a := a) (cell := cellB) (by rw [hT]; exact hcB) (fun z h => by rw [h] at hoB; cases hoB) hselP hmethM habM hkP hkPi (g := F0 m pc ls (As.reverse ++ .ref a :: rest)) rfl (argsL := As) (rest := rest) hlen rfl (by rw [C.b]; exact hdg)
  have hts1 : ∀ w ∈ Ts, ∀ a', w.before a' (T.setVm vm₁) = true := fun w hw a' => word_at X₁.warmed (hall w hw) (C.t w hw)
  have hn1 : (T.setVm vm₁).methodNamed? y = some mk := X₁.named hnamed
  have h : At (T.setVm vm₁) m c below := X₁.here
  obtain ⟨kY, hkY, -⟩ := className_of_methodNamed hn1
  have hinitY : kY.init = .initialized := Cond.initialized_spec (findClass_of_methodNamed hn1) hkY (hts1 _ w4 #[])
  obtain ⟨methY, cY, hmY, hcY, -, hlY, -, -, -, -⟩ := Cond.code_spec hn1 (hts1 _ w5 #[])
  have hpre : (headSpec (.code y bytes maxL ret :: Ts) rmy).pre.before (Value.ref a :: As).toArray (T.setVm vm₁) = true := atoms_intro fun w hw => by
    rcases List.mem_cons.mp hw with rfl | hw
    · exact hts1 _ w5 _
    · exact hts1 w hw _
  have hrm : (rest.map fun v => v.category).sum ≤ 8 := hrest
  have happ : (headSpec (.code y bytes maxL ret :: Ts) rmy).appliesLoose y e.platform ((T.setVm vm₁).calling (F0 m pc ls rest) mk (Value.ref a :: As).toArray) = true :=
    Spec.appliesLoose_calling (g := F0 m pc ls rest) h (by rw [C.b]; exact hdg) hn1 hkY hinitY
      (X₁.room_calling (g := F0 m pc ls rest) (R' := rmy) (hls.trans C.ml.symm) hmY hcY hR.2.2.1 (by rw [hlY]; show 2 * 0 + (rest.map fun v => v.category).sum + _ + _ ≤ _; omega) (by rw [hR.1]; exact hf.1) (by rw [hR.2.1]; exact hf.2)) hpre
  obtain ⟨mid, hmid⟩ := h.above
  have hfr : ((T.setVm vm₁).setTop (F0 m pc ls rest)).frames = (.java (F0 m pc ls rest) :: mid) ++ below := by rw [State.frames_setTop' _ h.top, hmid]; rfl
  have hPc : va_Pc (.ref a :: As) (np_Pre gA D cl tys wd σ H.size) (Value.ref a :: As).toArray ((T.setVm vm₁).calling (F0 m pc ls rest) mk (Value.ref a :: As).toArray) := np_blind _ _ _ _ (np_preU C hat (T.setVm vm₁) hT X₁.warmed)
  obtain ⟨oc, s₂, hsteps, -, hend, hq⟩ := Steps.callFree hM p X₁.admits X₁.cas X₁.clock (acts := []) hfr happ hPc trivial
  obtain ⟨x, ce, L, rfl, hce, hcl, hvm, ⟨hP1, hK1, hD1⟩, hF, hW, hsame, hL⟩ := hq
  have hend' : Ended s₂ (.java (F0 m pc ls rest) :: below) (.threw x) := by
    rw [State.frames_setTop' _ h.top] at hend
    rw [← X₁.tail]
    exact hend
  obtain ⟨T', X', hWT, hsT, ht⟩ := X₁.outOfThrown (g := F0 m pc ls rest) rfl (mk := mk) (a := (Value.ref a :: As).toArray) hend' hW hsame
  have hh : s₂.heap = T'.heap := by rw [ht, Stand.throwing_heap]
  have hvv : ((T'.setTop (F0 m pc ls rest)).pushFrame (.throwing x)).vm = T'.vm := Stand.throwing_vm _ _ _
  have hcl' : s.vm.findClass (np_xn o.1) = some ce.cls := by
    have h9 : (T.setVm vm₁).vm.findClass (np_xn o.1) = some ce.cls := hcl
    rw [X₁.warmed.alike.findClass] at h9
    exact h9
  obtain ⟨vm', hWv, hft⟩ := hfind X.admits ((T'.setTop (F0 m pc ls rest)).pushFrame (.throwing x)) x ce (by rw [hvv]; exact X'.method') (by rw [hvv]; exact X'.warmed) (by rw [Stand.throwing_heap, ← hh]; exact hce) hcl' hvm
  have X'' := X'.noted hWv
  have hF' : va_F (va_A (wd σ) H.size) ((T.setVm vm₁).calling (F0 m pc ls rest) mk (Value.ref a :: As).toArray) s₂ := hF
  have hst0 : ((T.setVm vm₁).calling (F0 m pc ls rest) mk (Value.ref a :: As).toArray).heap = H := hT
  obtain ⟨t, a1, b1⟩ := kk x T'.heap (locs ++ L) ⟨by rw [← hh]; exact hP1, hD1.weaken (fun _ _ _ h => hFc _ h), by
      refine ⟨?_, fun q h1 h2 => ?_, fun q hq => ?_⟩
      · have h5 := hF'.1
        rw [hst0, hh] at h5
        exact Nat.le_trans hat.2.2.1 h5
      · have h5 := hF'.2 q (by rw [hst0]; exact Nat.lt_of_lt_of_le h1 hat.2.2.1) (fun z => h2 (hFc q z))
        rw [hst0, hh] at h5
        exact h5.trans (hat.2.2.2.1 q h1 h2)
      · rcases List.mem_append.mp hq with h5 | h5
        · exact hat.2.2.2.2 q h5
        · exact hFc _ (hL q h5)⟩ (T'.setVm vm') rfl X''
  refine ⟨t, hstep₁ _ (fun acts => ?_), b1⟩
  rw [doInvoke_state]
  refine hsteps.trans ?_
  rw [ht]
  exact np_caught X'.here hft a1
end NPK
section NPW
variable {p : Program} {l : Launch} {e : Env} {R : Room} {s : State} {m : MethodId} {args : Array Value} {below : List Frame} {meth : Method} {c : Code} {H : Heap} {locs : List Loc} {cells slots : Nat} {Q : State → Prop}
variable {cc : ByteArray} {pc : Nat} {ls : Array Slot} {rest : List Value} {D : va_G} {cl : List vw_C} {tys : List (ClassId × FieldType)} {A : Nat → Prop} {Ts : List Cond} {own : String} {nL : Nat} {rm : Room} {wd : np_S → va_W} {σ : np_S} {gA : Nat → Nat}
/-- a class's entry, resolved at tables that are warmer -/
theorem np_entry (C : np_Cx gA p R s m args c D cl tys A Ts own cc nL rm) (hadm : l.admits e) {index : Nat} {Xn : String} (w : .classLink own index Xn ∈ Ts) {vm0 : Vm} (hW : s.WarmedH vm0) : ∃ (cX : ClassId) (vm' : Vm), s.vm.findClass Xn = some cX ∧ (Jvm.resolveClass m.cls index).Gives e.toSetting vm0 (.ok cX) vm' ∧ s.WarmedH vm' ∧ vm'.classes.size ≤ vm0.classes.size := by
  have hpl : e.platform.magicAccessors = ({} : Platform).magicAccessors := by rw [hadm.platform]
  obtain ⟨cX, hfc, hcl⟩ := Cond.classLink_spec C.o (C.t _ w) e.platform hpl
  obtain ⟨hg, hWn, -⟩ := State.classEntry (e := e) hW hcl
  exact ⟨cX, _, hfc, hg, hWn, by simp⟩
theorem np_hasK (C : np_Cx gA p R s m args c D cl tys A Ts own cc nL rm) {Xn : String} (w : .instantiable Xn 6 ∈ Ts) {cX : ClassId} (hf : s.vm.findClass Xn = some cX) {vm' : Vm} (hW : s.WarmedH vm') : ∃ k, vm'.classes[cX]? = some k := by
  obtain ⟨c2, k2, h1, h2, -⟩ := Cond.instantiable_spec (C.t _ w)
  cases h1.symm.trans hf
  obtain ⟨k3, h3, -⟩ := hW.alike.2.2 _ _ h2
  exact ⟨k3, h3⟩
theorem np_asg (C : np_Cx gA p R s m args c D cl tys A Ts own cc nL rm) {Xn : String} (w : Cond.castable Xn Xn ∈ np_cw) {cX : ClassId} (hf : s.vm.findClass Xn = some cX) {vm' : Vm} (hW : s.WarmedH vm') : vm'.assignable cX cX = true := by
  obtain ⟨c3, c4, h3, h4, hasg⟩ := Cond.castable_spec (show (Cond.castable Xn Xn).holds #[] s none s [] = true from C.en.2.2.2.2.2.2.2 _ w)
  cases h3.symm.trans hf
  cases h4.symm.trans hf
  rw [hW.alike.assignable]
  exact hasg
theorem np_nasg (C : np_Cx gA p R s m args c D cl tys A Ts own cc nL rm) {Xn Yn : String} (w : Cond.not (Cond.castable Xn Yn) ∈ np_cw) {cX cY : ClassId} (hf : s.vm.findClass Xn = some cX) (hg : s.vm.findClass Yn = some cY) {vm' : Vm} (hW : s.WarmedH vm') : vm'.assignable cX cY = false := by
  have h := C.en.2.2.2.2.2.2.2 _ w
  rw [hW.alike.assignable]
  simpa [Cond.before, Cond.holds, Cond.value, hf, hg] using h
theorem np_hf1 (C : np_Cx gA p R s m args c D cl tys A Ts own cc nL rm) (hcode : meth.code = some c) {x : ExceptionTableEntry} {t : List ExceptionTableEntry} (ht : c.exceptionTable.toList = x :: t) (hx : covers x pc = true) (h0 : x.catchType ≠ 0) {Xn : String} {k : Nat} (hk : np_xn k = Xn) (w : .classLink own x.catchType Xn ∈ Ts) (wi : .instantiable Xn 6 ∈ Ts) (wc : Cond.castable Xn Xn ∈ np_cw) :
    l.admits e → ∀ (T' : State) (x0 : Nat) (ce : Cell), T'.vm.method? m = some meth → s.WarmedH T'.vm → T'.heap[x0]? = some ce → s.vm.findClass (np_xn k) = some ce.cls → ce.vm = .none → ∃ vm', s.WarmedH vm' ∧ np_FT e T' (F0 m pc ls rest) x0 (.found x.handlerPc) vm' := by
  intro hadm T' x0 ce hm hW hce hcl hvm
  subst hk
  obtain ⟨cX, vm', hfc, hg, hWv, hsz⟩ := np_entry C hadm w hW
  cases hfc.symm.trans hcl
  have hkk := np_hasK C wi hcl hWv
  exact ⟨vm', hWv, np_find1 (f := F0 m pc ls rest) hm hcode ht hx h0 hg hsz hce (fun z h => by rw [hvm] at h; cases h) hkk hkk (np_asg C wc hcl hWv)⟩
theorem np_hf2 (C : np_Cx gA p R s m args c D cl tys A Ts own cc nL rm) (hcode : meth.code = some c) {x y : ExceptionTableEntry} {t : List ExceptionTableEntry} (ht : c.exceptionTable.toList = x :: y :: t) (hx : covers x pc = true) (h0 : x.catchType ≠ 0) (hy : covers y pc = true) (h1 : y.catchType ≠ 0) {Xn Yn : String} {k : Nat} (hk : np_xn k = Yn) (w : .classLink own x.catchType Xn ∈ Ts) (wi : .instantiable Xn 6 ∈ Ts) (w2 : .classLink own y.catchType Yn ∈ Ts) (wi2 : .instantiable Yn 6 ∈ Ts) (wc : Cond.castable Yn Yn ∈ np_cw) (wn : Cond.not (Cond.castable Yn Xn) ∈ np_cw) :
    l.admits e → ∀ (T' : State) (x0 : Nat) (ce : Cell), T'.vm.method? m = some meth → s.WarmedH T'.vm → T'.heap[x0]? = some ce → s.vm.findClass (np_xn k) = some ce.cls → ce.vm = .none → ∃ vm', s.WarmedH vm' ∧ np_FT e T' (F0 m pc ls rest) x0 (.found y.handlerPc) vm' := by
  intro hadm T' x0 ce hm hW hce hcl hvm
  subst hk
  obtain ⟨cX, vm1, hfc, hg, hW1, hsz⟩ := np_entry C hadm w hW
  obtain ⟨cY, vm', hfc2, hg2, hWv, hsz2⟩ := np_entry C hadm w2 hW1
  cases hfc2.symm.trans hcl
  have hkk := np_hasK C wi2 hcl hWv
  exact ⟨vm', hWv, np_find2 (f := F0 m pc ls rest) hm hcode ht hx h0 hg hsz hce (fun z h => by rw [hvm] at h; cases h) (np_hasK C wi2 hcl hW1) (np_hasK C wi hfc hW1) (np_nasg C wn hcl hfc hW1) hy h1 hg2 hsz2 hkk hkk (np_asg C wc hcl hWv)⟩
/-- a call of a method that may throw, and doesn't -/
theorem np_callV1 (C : np_Cx gA p R s m args c D cl tys A Ts own cc nL rm) {y : MethodName} {bytes : ByteArray} {maxL index nA : Nat} {ret : Option FieldType} {rmy : Room} {As st : List Value} {a : Nat} {o : np_O} (hM : Met l y (.code y bytes maxL ret :: Ts) rmy (va_Pc (.ref a :: As) (np_Pre gA D cl tys wd σ H.size)) (va_Qi (fun (r : Int32) (u : np_S) => r = np_i o.1 ∧ u = o.2) (np_B D cl tys (va_A (wd σ) H.size) wd) (va_A (wd σ) H.size)) 1 6 (va_A (wd σ) H.size)) (hall : np_good Ts) (w1 : .methodLink own index y ∈ Ts) (w2 : .instanceMethod y ∈ Ts) (w3 : .selects y.cls y y ∈ Ts) (w4 : .initialized y.cls ∈ Ts) (w5 : .code y bytes maxL ret ∈ Ts) (hd : y.cls ≠ "java/lang/invoke/MethodHandle" ∧ y.cls ≠ "java/lang/invoke/VarHandle" ∧ (parseMethodDescriptor y.desc).map (fun d => d.parameters.length) = some nA) (hnA : As.length = nA) (hR : rmy.cells = 1 ∧ rmy.slots = 6 ∧ rmy.frames + 1 ≤ rm.frames ∧ 8 + (maxL + 11) + rmy.locals ≤ rm.locals) (hf : cells + 1 ≤ rm.cells ∧ slots + 6 ≤ rm.slots)
    (hrecv : ∃ cell : Cell, H[a]? = some cell ∧ cell.vm.isStatics = false ∧ s.vm.findClass y.cls = some cell.cls) (hat : np_At D cl A wd s σ H locs) (hst : st = As.reverse ++ .ref a :: rest) (hls : ls.size = nL) (hrest : (rest.map fun v => v.category).sum ≤ 8) (hdg : decode cc pc = .ok (.invokevirtual index, 3))
    (kk : ∀ (H : Heap) (locs : List Loc), np_At D cl A wd s o.2 H locs → W p l e R s m args below meth c H locs (cells + 1) (slots + 6) Q (F0 m (pc + 3) ls (.int (np_i o.1) :: rest))) : W p l e R s m args below meth c H locs cells slots Q (F0 m pc ls st) := by
  have hFc := np_freeA C hat
  subst hst
  have hRR : rmy.frames + 1 ≤ R.frames ∧ 8 + (maxL + 11) + rmy.locals ≤ R.locals := by rw [C.r]; exact hR.2.2
  have hff : cells + 1 ≤ R.cells ∧ slots + 6 ≤ R.slots := by rw [C.r]; exact hf
  have hG : ∀ w ∈ (.code y bytes maxL ret :: Ts), w ∈ Ts := fun w hw => by
    rcases List.mem_cons.mp hw with rfl | hw
    · exact w5
    · exact hw
  refine va_calli (va_runV (As := As) (rest := rest) C.1 hM ⟨callB_of nA C.t (np_goodIn hall hG) rfl hR.1 hR.2.1 (C.t _ w4) (C.t _ w1) hd hRR, C.t _ w2, C.t _ w3⟩ ⟨np_blind, hrecv, np_preU C hat⟩ rfl hnA hls rfl (lv_room hrest) hdg hff) hat.2.2 (fun q _ h => hFc q h) hFc (fun r1 u t H1 locs ht hvm hw hB hz1 hk1 hS => ?_)
  obtain ⟨rfl, rfl⟩ := hw
  obtain ⟨hP1, hK1, hD1⟩ := hB
  rw [ht] at hP1
  exact kk H1 locs ⟨hP1, hD1.weaken (fun _ _ _ h => hFc _ h), hS⟩
end NPW
/-- the contract of a wrapper: it answers o.1, leaves the store o.2, makes at most one exception -/
def np_Mi1 (gA : Nat → Nat) (l : Launch) (D : va_G) (cl : List vw_C) (tys : List (ClassId × FieldType)) (wd : np_S → va_W) (y : MethodName) (ws : List Cond) (rm : Room) (avs : List Value) (σ : np_S) (fy : Option np_O) : Prop :=
  ∀ (sz : Nat) (o : np_O), fy = some o → Met l y ws rm (va_Pc avs (np_Pre gA D cl tys wd σ sz)) (va_Qi (fun (r : Int32) (u : np_S) => r = np_i o.1 ∧ u = o.2) (np_B D cl tys (va_A (wd σ) sz) wd) (va_A (wd σ) sz)) 1 6 (va_A (wd σ) sz)
set_option maxHeartbeats 1000000 in
theorem np_mkw {gA : Nat → Nat} {l : Launch} {D : va_G} {cl : List vw_C} {tys : List (ClassId × FieldType)} {wd : np_S → va_W} {y : MethodName} {cc : ByteArray} {nL : Nat} {hh : List (Nat × Nat × Nat × Nat)} {AL : List Cond} {rm : Room} {avs : List Value} {σ : np_S} {fy : Option np_O} (hy : plainName y.cls = true) (hlen : (lg_sl avs).length ≤ nL)
    (body : ∀ (o : np_O) (p : Program) (e : Env) (R : Room) (s : State) (m : MethodId) (args : Array Value) (below : List Frame) (meth : Method) (c : Code) (Q : State → Prop) (A : Nat → Prop) (ls : Array Slot), fy = some o → np_Cx gA p R s m args c D cl tys A AL y.cls cc nL rm → meth.code = some c → c.exceptionTable.toList = tableOf hh →
      (∀ (pc : Nat) (ls : Array Slot) (H : Heap) (locs : List Loc) (v : Int) {σ2 : np_S}, decode cc pc = .ok (.ireturn, 1) → some (v, σ2) = some o → np_At D cl A wd s σ2 H locs → W p l e R s m args below meth c H locs (0 + 1) (0 + 6) Q (F0 m pc ls [.int (np_i v)])) →
      np_At D cl A wd s σ s.heap [] → lv_has ls nL (lv_args 0 avs) → W p l e R s m args below meth c s.heap [] 0 0 Q (F0 m 0 ls [])) : np_Mi1 gA l D cl tys wd y (.codeWith y cc nL (some .int) hh :: AL) rm avs σ fy := by
  intro sz o hfy
  refine va_MetW (cc := cc) (maxL := nL) (ret := (some .int)) (hh := hh) hy rfl ?_
  intro p e s m args below meth c s₁ B hml hv
  obtain ⟨rfl, hsz, hP, hK, hD0, hE⟩ := hv
  subst hsz
  have hts := atoms_spec (ws := .codeWith y cc nL (some .int) hh :: AL) B.pre
  have hown : s.vm.findClass y.cls = some m.cls := findClass_of_methodNamed B.named
  have hlocks := B.notSynchronized
  have hcode : meth.code = some c := (Stand.of_body B).code
  have htab : c.exceptionTable.toList = tableOf hh := by
    obtain ⟨m9, meth9, c9, hn9, hm9, hc9, -, -, ht9, -⟩ := Cond.codeWith_spec (show (Cond.codeWith y cc nL (some .int) hh).holds avs.toArray s none s [] = true from hts _ List.mem_cons_self)
    cases hn9.symm.trans B.named
    cases hm9.symm.trans B.method
    cases hc9.symm.trans hcode
    rw [← ht9, table_eq]
  rw [lg_entry_eq]
  have hC : np_Cx gA p (headSpec (.codeWith y cc nL (some .int) hh :: AL) rm).room s m avs.toArray c D cl tys (va_A (wd σ) s.heap.size) AL y.cls cc nL rm := ⟨⟨B.exec, B.bytes, hml, hown, fun w hw => hts w (List.mem_cons_of_mem _ hw)⟩, hK, fun a h => Or.inr h, rfl, hE, np_noSt hP⟩
  refine body o p e _ s m _ below meth c _ (va_A (wd σ) s.heap.size) _ hfy hC hcode htab (fun pc ls H locs v σ2 hdg ho hat => ?_) ⟨hP, hD0.self, va_S.rf⟩ (lv_entry avs hlen)
  have ho := Option.some.inj ho
  subst ho
  exact W.iret (v := np_i v) hC.x hC.b B.returns (fun t ht hW => ⟨⟨np_i v, σ2, rfl, ⟨rfl, rfl⟩, by rw [ht]; exact hat.1, va_K.moved hW.alike hK, hat.2.1⟩, hat.2.2.F ht⟩) hat.2.2.2.2 hdg hlocks
