section NPW
variable {p : Program} {l : Launch} {e : Env} {R : Room} {s : State} {m : MethodId} {args : Array Value} {below : List Frame} {meth : Method} {c : Code} {H : Heap} {locs : List Loc} {cells slots : Nat} {Q : State → Prop}
variable {cc : ByteArray} {pc : Nat} {ls : Array Slot} {rest : List Value} {D : va_G} {cl : List vw_C} {tys : List (ClassId × FieldType)} {A : Nat → Prop} {Ts : List Cond} {own : String} {nL : Nat} {rm : Room} {wd : np_S → va_W} {σ : np_S} {gA : Nat → Nat}
/-- a class's entry, resolved at tables that are warmer -/
theorem np_entry (C : np_Cx gA p R s m args c D cl tys A Ts own cc nL rm) (hadm : l.admits e) {index : Nat} {Xn : String} (w : .classLink own index Xn ∈ Ts) {vm0 : Vm} (hW : s.WarmedH vm0) : ∃ (cX : ClassId) (vm' : Vm), s.vm.findClass Xn = some cX ∧ (Jvm.resolveClass m.cls index).Gives e.toSetting vm0 (.ok cX) vm' ∧ s.WarmedH vm' ∧ vm'.classes.size ≤ vm0.classes.size := by
  have hpl : e.platform.magicAccessors = ({} : Platform).magicAccessors := by rw [hadm.platform]
  obtain ⟨cX, hfc, hcl⟩ := Cond.classLink_spec C.o (C.t _ w) e.platform hpl
  obtain ⟨hg, hWn, -⟩ := State.classEntry (e := e) hW hcl
  exact ⟨cX, _, hfc, hg, hWn, by simp⟩
theorem np_hasK (C : np_Cx gA p R s m args c D cl tys A Ts own cc nL rm) {Xn : String} (w : .instantiable Xn 6 ∈ Ts) {cX : ClassId} (hf : s.vm.findClass Xn = some cX) {vm' : Vm} (hW : s.WarmedH vm') : ∃ k, vm'.classes[cX]? = some k := by
  obtain ⟨c2, k2, h1, h2, -⟩ := Cond.instantiable_spec (C.t _ w)
  cases h1.symm.trans hf
  obtain ⟨k3, h3, -⟩ := hW.alike.2.2 _ _ h2
  exact ⟨k3, h3⟩
theorem np_asg (C : np_Cx gA p R s m args c D cl tys A Ts own cc nL rm) {Xn : String} (w : Cond.castable Xn Xn ∈ np_cw) {cX : ClassId} (hf : s.vm.findClass Xn = some cX) {vm' : Vm} (hW : s.WarmedH vm') : vm'.assignable cX cX = true := by
  obtain ⟨c3, c4, h3, h4, hasg⟩ := Cond.castable_spec (show (Cond.castable Xn Xn).holds #[] s none s [] = true from C.en.2.2.2.2.2.2.2 _ w)
  cases h3.symm.trans hf
  cases h4.symm.trans hf
  rw [hW.alike.assignable]
  exact hasg
theorem np_nasg (C : np_Cx gA p R s m args c D cl tys A Ts own cc nL rm) {Xn Yn : String} (w : Cond.not (Cond.castable Xn Yn) ∈ np_cw) {cX cY : ClassId} (hf : s.vm.findClass Xn = some cX) (hg : s.vm.findClass Yn = some cY) {vm' : Vm} (hW : s.WarmedH vm') : vm'.assignable cX cY = false := by
  have h := C.en.2.2.2.2.2.2.2 _ w
  rw [hW.alike.assignable]
  simpa [Cond.before, Cond.holds, Cond.value, hf, hg] using h
theorem np_hf1 (C : np_Cx gA p R s m args c D cl tys A Ts own cc nL rm) (hcode : meth.code = some c) {x : ExceptionTableEntry} {t : List ExceptionTableEntry} (ht : c.exceptionTable.toList = x :: t) (hx : covers x pc = true) (h0 : x.catchType ≠ 0) {Xn : String} {k : Nat} (hk : np_xn k = Xn) (w : .classLink own x.catchType Xn ∈ Ts) (wi : .instantiable Xn 6 ∈ Ts) (wc : Cond.castable Xn Xn ∈ np_cw) :
    l.admits e → ∀ (T' : State) (x0 : Nat) (ce : Cell), T'.vm.method? m = some meth → s.WarmedH T'.vm → T'.heap[x0]? = some ce → s.vm.findClass (np_xn k) = some ce.cls → ce.vm = .none → ∃ vm', s.WarmedH vm' ∧ np_FT e T' (F0 m pc ls rest) x0 (.found x.handlerPc) vm' := by
  intro hadm T' x0 ce hm hW hce hcl hvm
  subst hk
  obtain ⟨cX, vm', hfc, hg, hWv, hsz⟩ := np_entry C hadm w hW
  cases hfc.symm.trans hcl
  have hkk := np_hasK C wi hcl hWv
  exact ⟨vm', hWv, np_find1 (f := F0 m pc ls rest) hm hcode ht hx h0 hg hsz hce (fun z h => by rw [hvm] at h; cases h) hkk hkk (np_asg C wc hcl hWv)⟩
theorem np_hf2 (C : np_Cx gA p R s m args c D cl tys A Ts own cc nL rm) (hcode : meth.code = some c) {x y : ExceptionTableEntry} {t : List ExceptionTableEntry} (ht : c.exceptionTable.toList = x :: y :: t) (hx : covers x pc = true) (h0 : x.catchType ≠ 0) (hy : covers y pc = true) (h1 : y.catchType ≠ 0) {Xn Yn : String} {k : Nat} (hk : np_xn k = Yn) (w : .classLink own x.catchType Xn ∈ Ts) (wi : .instantiable Xn 6 ∈ Ts) (w2 : .classLink own y.catchType Yn ∈ Ts) (wi2 : .instantiable Yn 6 ∈ Ts) (wc : Cond.castable Yn Yn ∈ np_cw) (wn : Cond.not (Cond.castable Yn Xn) ∈ np_cw) :
    l.admits e → ∀ (T' : State) (x0 : Nat) (ce : Cell), T'.vm.method? m = some meth → s.WarmedH T'.vm → T'.heap[x0]? = some ce → s.vm.findClass (np_xn k) = some ce.cls → ce.vm = .none → ∃ vm', s.WarmedH vm' ∧ np_FT e T' (F0 m pc ls rest) x0 (.found y.handlerPc) vm' := by
  intro hadm T' x0 ce hm hW hce hcl hvm
  subst hk
  obtain ⟨cX, vm1, hfc, hg, hW1, hsz⟩ := np_entry C hadm w hW
  obtain ⟨cY, vm', hfc2, hg2, hWv, hsz2⟩ := np_entry C hadm w2 hW1
  cases hfc2.symm.trans hcl
  have hkk := np_hasK C wi2 hcl hWv
  exact ⟨vm', hWv, np_find2 (f := F0 m pc ls rest) hm hcode ht hx h0 hg hsz hce (fun z h => by rw [hvm] at h; cases h) (np_hasK C wi2 hcl hW1) (np_hasK C wi hfc hW1) (np_nasg C wn hcl hfc hW1) hy h1 hg2 hsz2 hkk hkk (np_asg C wc hcl hWv)⟩
/-- a call of a method that may throw, and doesn't -/
theorem np_callV1 (C : np_Cx gA p R s m args c D cl tys A Ts own cc nL rm) {y : MethodName} {bytes : ByteArray} {maxL index nA : Nat} {ret : Option FieldType} {rmy : Room} {As st : List Value} {a : Nat} {o : np_O} (hM : Met l y (.code y bytes maxL ret :: Ts) rmy (va_Pc (.ref a :: As) (np_Pre gA D cl tys wd σ H.size)) (va_Qi (fun (r : Int32) (u : np_S) => r = np_i o.1 ∧ u = o.2) (np_B D cl tys (va_A (wd σ) H.size) wd) (va_A (wd σ) H.size)) 1 6 (va_A (wd σ) H.size)) (hall : np_good Ts) (w1 : .methodLink own index y ∈ Ts) (w2 : .instanceMethod y ∈ Ts) (w3 : .selects y.cls y y ∈ Ts) (w4 : .initialized y.cls ∈ Ts) (w5 : .code y bytes maxL ret ∈ Ts) (hd : y.cls ≠ "java/lang/invoke/MethodHandle" ∧ y.cls ≠ "java/lang/invoke/VarHandle" ∧ (parseMethodDescriptor y.desc).map (fun d => d.parameters.length) = some nA) (hnA : As.length = nA) (hR : rmy.cells = 1 ∧ rmy.slots = 6 ∧ rmy.frames + 1 ≤ rm.frames ∧ 8 + (maxL + 11) + rmy.locals ≤ rm.locals) (hf : cells + 1 ≤ rm.cells ∧ slots + 6 ≤ rm.slots)
    (hrecv : ∃ cell : Cell, H[a]? = some cell ∧ cell.vm.isStatics = false ∧ s.vm.findClass y.cls = some cell.cls) (hat : np_At D cl A wd s σ H locs) (hst : st = As.reverse ++ .ref a :: rest) (hls : ls.size = nL) (hrest : (rest.map fun v => v.category).sum ≤ 8) (hdg : decode cc pc = .ok (.invokevirtual index, 3))
    (kk : ∀ (H : Heap) (locs : List Loc), np_At D cl A wd s o.2 H locs → W p l e R s m args below meth c H locs (cells + 1) (slots + 6) Q (F0 m (pc + 3) ls (.int (np_i o.1) :: rest))) : W p l e R s m args below meth c H locs cells slots Q (F0 m pc ls st) := by
  have hFc := np_freeA C hat
  subst hst
  have hRR : rmy.frames + 1 ≤ R.frames ∧ 8 + (maxL + 11) + rmy.locals ≤ R.locals := by rw [C.r]; exact hR.2.2
  have hff : cells + 1 ≤ R.cells ∧ slots + 6 ≤ R.slots := by rw [C.r]; exact hf
  have hG : ∀ w ∈ (.code y bytes maxL ret :: Ts), w ∈ Ts := fun w hw => by
    rcases List.mem_cons.mp hw with rfl | hw
    · exact w5
    · exact hw
  refine va_calli (va_runV (As := As) (rest := rest) C.1 hM ⟨callB_of nA C.t (np_goodIn hall hG) rfl hR.1 hR.2.1 (C.t _ w4) (C.t _ w1) hd hRR, C.t _ w2, C.t _ w3⟩ ⟨np_blind, hrecv, np_preU C hat⟩ rfl hnA hls rfl (lv_room hrest) hdg hff) hat.2.2 (fun q _ h => hFc q h) hFc (fun r1 u t H1 locs ht hvm hw hB hz1 hk1 hS => ?_)
  obtain ⟨rfl, rfl⟩ := hw
  obtain ⟨hP1, hK1, hD1⟩ := hB
  rw [ht] at hP1
  exact kk H1 locs ⟨hP1, hD1.weaken (fun _ _ _ h => hFc _ h), hS⟩
end NPW
