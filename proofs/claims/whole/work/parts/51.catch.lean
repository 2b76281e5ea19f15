section NPK
variable {p : Program} {l : Launch} {e : Env} {R : Room} {s : State} {m : MethodId} {args : Array Value} {below : List Frame} {meth : Method} {c : Code} {H : Heap} {locs : List Loc} {cells slots : Nat} {Q : State → Prop}
variable {cc : ByteArray} {pc : Nat} {ls : Array Slot} {rest : List Value} {D : va_G} {cl : List vw_C} {tys : List (ClassId × FieldType)} {A : Nat → Prop} {Ts : List Cond} {own : String} {nL : Nat} {rm : Room} {wd : np_S → va_W} {σ : np_S} {gA : Nat → Nat}
set_option maxHeartbeats 4000000 in
/-- a call of a method that throws, into a handler of the caller's own -/
theorem np_callT (C : np_Cx gA p R s m args c D cl tys A Ts own cc nL rm) {y : MethodName} {bytes : ByteArray} {maxL index nA : Nat} {ret : Option FieldType} {rmy : Room} {As st : List Value} {a hpc : Nat} {o : np_X} (hM : MetFree l y (headSpec (.code y bytes maxL ret :: Ts) rmy) (va_Pc (.ref a :: As) (np_Pre gA D cl tys wd σ H.size)) (fun _ _ _ _ _ => True) (np_Qt D cl tys (va_A (wd σ) H.size) wd o)) (hall : np_good Ts) (w1 : .methodLink own index y ∈ Ts) (w2 : .instanceMethod y ∈ Ts) (w3 : .selects y.cls y y ∈ Ts) (w4 : .initialized y.cls ∈ Ts) (w5 : .code y bytes maxL ret ∈ Ts) (hd : y.cls ≠ "java/lang/invoke/MethodHandle" ∧ y.cls ≠ "java/lang/invoke/VarHandle" ∧ (parseMethodDescriptor y.desc).map (fun d => d.parameters.length) = some nA) (hnA : As.length = nA) (hR : rmy.cells = 1 ∧ rmy.slots = 6 ∧ rmy.frames + 1 ≤ rm.frames ∧ 8 + (maxL + 11) + rmy.locals ≤ rm.locals) (hf : cells + 1 ≤ rm.cells ∧ slots + 6 ≤ rm.slots)
    (hrecv : ∃ cell : Cell, H[a]? = some cell ∧ cell.vm.isStatics = false ∧ s.vm.findClass y.cls = some cell.cls) (hat : np_At D cl A wd s σ H locs) (hst : st = As.reverse ++ .ref a :: rest) (hls : ls.size = nL) (hrest : (rest.map fun v => v.category).sum ≤ 8) (hdg : decode cc pc = .ok (.invokevirtual index, 3))
    (hfind : l.admits e → ∀ (T' : State) (x : Nat) (ce : Cell), T'.vm.method? m = some meth → s.WarmedH T'.vm → T'.heap[x]? = some ce → s.vm.findClass (np_xn o.1) = some ce.cls → ce.vm = .none → ∃ vm', s.WarmedH vm' ∧ np_FT e T' (F0 m pc ls rest) x (.found hpc) vm')
    (kk : ∀ (x : Nat) (H : Heap) (locs : List Loc), np_At D cl A wd s o.2.2 H locs → W p l e R s m args below meth c H locs (cells + 1) (slots + 6) Q (F0 m hpc ls [.ref x])) : W p l e R s m args below meth c H locs cells slots Q (F0 m pc ls st) := by
  have hFc := np_freeA C hat
  subst hst
  have hr := C.r
  subst hr
  intro T hT X
  obtain ⟨mk, methM, hnamed, hmethM, hstM, habM⟩ := Cond.instanceMethod_spec (C.t _ w2)
  obtain ⟨methM', cM, hmethM', -, -, -, -, -, -, hsigM⟩ := Cond.code_spec hnamed (C.t _ w5)
  cases hmethM.symm.trans hmethM'
  obtain ⟨c2, r2, m2, q1, q2, q3, q4, kP, hkP, hkPi⟩ := Cond.selects_spec (C.t _ w3)
  obtain ⟨cellB, hcB, hoB, hclB⟩ := hrecv
  cases hclB.symm.trans q1
  cases (State.methodFound?_of_named hnamed ⟨hd.1, hd.2.1⟩).symm.trans q2
  cases hnamed.symm.trans q3
  have hselP : selectMethod e.platform s.vm cellB.cls mk = .method mk := by rw [Launch.admits_selectMethod X.admits]; exact q4
  have hlen : As.length = methM.sig.parameters.length := by
    have h2 := hd.2.2
    rw [hsigM] at h2
    exact hnA.trans (Option.some.inj h2).symm
  obtain ⟨vm₁, X₁, hstep₁⟩ := X.invokevirtual C.x C.o (C.t _ w1) hnamed hmethM hstM hkP hkPi ⟨hd.1, hd.2.1⟩ (a := a) (cell := cellB) (by rw [hT]; exact hcB) (fun z h => by rw [h] at hoB; cases hoB) hselP hmethM habM hkP hkPi (g := F0 m pc ls (As.reverse ++ .ref a :: rest)) rfl (argsL := As) (rest := rest) hlen rfl (by rw [C.b]; exact hdg)
  have hts1 : ∀ w ∈ Ts, ∀ a', w.before a' (T.setVm vm₁) = true := fun w hw a' => word_at X₁.warmed (hall w hw) (C.t w hw)
  have hn1 : (T.setVm vm₁).methodNamed? y = some mk := X₁.named hnamed
  have h : At (T.setVm vm₁) m c below := X₁.here
  obtain ⟨kY, hkY, -⟩ := className_of_methodNamed hn1
  have hinitY : kY.init = .initialized := Cond.initialized_spec (findClass_of_methodNamed hn1) hkY (hts1 _ w4 #[])
  obtain ⟨methY, cY, hmY, hcY, -, hlY, -, -, -, -⟩ := Cond.code_spec hn1 (hts1 _ w5 #[])
  have hpre : (headSpec (.code y bytes maxL ret :: Ts) rmy).pre.before (Value.ref a :: As).toArray (T.setVm vm₁) = true := atoms_intro fun w hw => by
    rcases List.mem_cons.mp hw with rfl | hw
    · exact hts1 _ w5 _
    · exact hts1 w hw _
  have hrm : (rest.map fun v => v.category).sum ≤ 8 := hrest
  have happ : (headSpec (.code y bytes maxL ret :: Ts) rmy).appliesLoose y e.platform ((T.setVm vm₁).calling (F0 m pc ls rest) mk (Value.ref a :: As).toArray) = true :=
    Spec.appliesLoose_calling (g := F0 m pc ls rest) h (by rw [C.b]; exact hdg) hn1 hkY hinitY
      (X₁.room_calling (g := F0 m pc ls rest) (R' := rmy) (hls.trans C.ml.symm) hmY hcY hR.2.2.1 (by rw [hlY]; show 2 * 0 + (rest.map fun v => v.category).sum + _ + _ ≤ _; omega) (by rw [hR.1]; exact hf.1) (by rw [hR.2.1]; exact hf.2)) hpre
  obtain ⟨mid, hmid⟩ := h.above
  have hfr : ((T.setVm vm₁).setTop (F0 m pc ls rest)).frames = (.java (F0 m pc ls rest) :: mid) ++ below := by rw [State.frames_setTop' _ h.top, hmid]; rfl
  have hPc : va_Pc (.ref a :: As) (np_Pre gA D cl tys wd σ H.size) (Value.ref a :: As).toArray ((T.setVm vm₁).calling (F0 m pc ls rest) mk (Value.ref a :: As).toArray) := np_blind _ _ _ _ (np_preU C hat (T.setVm vm₁) hT X₁.warmed)
  obtain ⟨oc, s₂, hsteps, -, hend, hq⟩ := Steps.callFree hM p X₁.admits X₁.cas X₁.clock (acts := []) hfr happ hPc trivial
  obtain ⟨x, ce, L, rfl, hce, hcl, hvm, ⟨hP1, hK1, hD1⟩, hF, hW, hsame, hL⟩ := hq
  have hend' : Ended s₂ (.java (F0 m pc ls rest) :: below) (.threw x) := by
    rw [State.frames_setTop' _ h.top] at hend
    rw [← X₁.tail]
    exact hend
  obtain ⟨T', X', hWT, hsT, ht⟩ := X₁.outOfThrown (g := F0 m pc ls rest) rfl (mk := mk) (a := (Value.ref a :: As).toArray) hend' hW hsame
  have hh : s₂.heap = T'.heap := by rw [ht, Stand.throwing_heap]
  have hvv : ((T'.setTop (F0 m pc ls rest)).pushFrame (.throwing x)).vm = T'.vm := Stand.throwing_vm _ _ _
  have hcl' : s.vm.findClass (np_xn o.1) = some ce.cls := by
    have h9 : (T.setVm vm₁).vm.findClass (np_xn o.1) = some ce.cls := hcl
    rw [X₁.warmed.alike.findClass] at h9
    exact h9
  obtain ⟨vm', hWv, hft⟩ := hfind X.admits ((T'.setTop (F0 m pc ls rest)).pushFrame (.throwing x)) x ce (by rw [hvv]; exact X'.method') (by rw [hvv]; exact X'.warmed) (by rw [Stand.throwing_heap, ← hh]; exact hce) hcl' hvm
  have X'' := X'.noted hWv
  have hF' : va_F (va_A (wd σ) H.size) ((T.setVm vm₁).calling (F0 m pc ls rest) mk (Value.ref a :: As).toArray) s₂ := hF
  have hst0 : ((T.setVm vm₁).calling (F0 m pc ls rest) mk (Value.ref a :: As).toArray).heap = H := hT
  obtain ⟨t, a1, b1⟩ := kk x T'.heap (locs ++ L) ⟨by rw [← hh]; exact hP1, hD1.weaken (fun _ _ _ h => hFc _ h), by
      refine ⟨?_, fun q h1 h2 => ?_, fun q hq => ?_⟩
      · have h5 := hF'.1
        rw [hst0, hh] at h5
        exact Nat.le_trans hat.2.2.1 h5
      · have h5 := hF'.2 q (by rw [hst0]; exact Nat.lt_of_lt_of_le h1 hat.2.2.1) (fun z => h2 (hFc q z))
        rw [hst0, hh] at h5
        exact h5.trans (hat.2.2.2.1 q h1 h2)
      · rcases List.mem_append.mp hq with h5 | h5
        · exact hat.2.2.2.2 q h5
        · exact hFc _ (hL q h5)⟩ (T'.setVm vm') rfl X''
  refine ⟨t, hstep₁ _ (fun acts => ?_), b1⟩
  rw [doInvoke_state]
  refine hsteps.trans ?_
  rw [ht]
  exact np_caught X'.here hft a1
end NPK
