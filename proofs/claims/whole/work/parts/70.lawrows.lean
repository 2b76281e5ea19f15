section NPL
variable {p : Program} {l : Launch} {e : Env} {R : Room} {s : State} {m : MethodId} {args : Array Value} {below : List Frame} {meth : Method} {c : Code} {H : Heap} {locs : List Loc} {cells slots : Nat} {Q : State → Prop}
variable {cc : ByteArray} {pc : Nat} {ls : Array Slot} {rest : List Value} {D : va_G} {cl : List vw_C} {tys : List (ClassId × FieldType)} {A : Nat → Prop} {Ts : List Cond} {own : String} {nL : Nat} {rm : Room} {wd : np_S → va_W} {σ : np_S} {gA : Nat → Nat}
theorem np_gcallVi (C : np_Cx gA p R s m args c D cl tys A Ts own cc nL rm) {y : MethodName} {bytes : ByteArray} {maxL index : Nat} {nA : Nat} {ret : Option FieldType} {rmy : Room} {As st : List Value} {a : Nat} {fy : Option np_O} (hM : np_Mi gA l D cl tys wd y (.code y bytes maxL ret :: Ts) rmy (.ref a :: As) σ fy) (hall : np_good Ts) (w1 : .methodLink own index y ∈ Ts) (w2 : .instanceMethod y ∈ Ts) (w3 : .selects y.cls y y ∈ Ts) (w4 : .initialized y.cls ∈ Ts) (w5 : .code y bytes maxL ret ∈ Ts) (hd : y.cls ≠ "java/lang/invoke/MethodHandle" ∧ y.cls ≠ "java/lang/invoke/VarHandle" ∧ (parseMethodDescriptor y.desc).map (fun d => d.parameters.length) = some nA) (hnA : As.length = nA) (hR : rmy.cells = 0 ∧ rmy.slots = 0 ∧ rmy.frames + 1 ≤ rm.frames ∧ 8 + (maxL + 11) + rmy.locals ≤ rm.locals) (hrecv : ∃ cell : Cell, H[a]? = some cell ∧ cell.vm.isStatics = false ∧ s.vm.findClass y.cls = some cell.cls) (hat : np_At D cl A wd s σ H locs) (hst : st = As.reverse ++ .ref a :: rest) (hls : ls.size = nL) (hcs : cells + 0 ≤ R.cells ∧ slots + 0 ≤ R.slots) (hrest : (rest.map fun v => v.category).sum ≤ 8) (hdg : decode cc pc = .ok (.invokevirtual index, 3)) {α : Type} {k : np_O → Option α} {o : α} (hf : fy.bind k = some o)
    (kk : ∀ (r : np_O) (H : Heap) (locs : List Loc), k r = some o → np_At D cl A wd s r.2 H locs → W p l e R s m args below meth c H locs cells slots Q (F0 m (pc + 3) ls (.int (np_i r.1) :: rest))) : W p l e R s m args below meth c H locs cells slots Q (F0 m pc ls st) := by
  obtain ⟨r, hfy, hfk⟩ := Option.bind_eq_some_iff.mp hf
  have hFc := np_freeA C hat
  subst hst
  have hRR : rmy.frames + 1 ≤ R.frames ∧ 8 + (maxL + 11) + rmy.locals ≤ R.locals := by rw [C.r]; exact hR.2.2
  have hG : ∀ w ∈ (.code y bytes maxL ret :: Ts), w ∈ Ts := fun w hw => by
    rcases List.mem_cons.mp hw with rfl | hw
    · exact w5
    · exact hw
  refine va_calli (va_runV (As := As) (rest := rest) C.1 (hM H.size r hfy) ⟨callB_of nA C.t (np_goodIn hall hG) rfl hR.1 hR.2.1 (C.t _ w4) (C.t _ w1) hd hRR, C.t _ w2, C.t _ w3⟩ ⟨np_blind, hrecv, np_preU C hat⟩ rfl hnA hls rfl (lv_room hrest) hdg hcs) hat.2.2 (fun q _ h => hFc q h) hFc (fun r1 u t H1 locs ht hvm hw hB hz1 hk1 hS => ?_)
  obtain ⟨rfl, rfl⟩ := hw
  obtain ⟨hP1, hK1, hD1⟩ := hB
  rw [ht] at hP1
  exact kk r H1 locs hfk ⟨hP1, hD1.weaken (fun _ _ _ h => hFc _ h), hS⟩
theorem np_gcallSi (C : np_Cx gA p R s m args c D cl tys A Ts own cc nL rm) {y : MethodName} {bytes : ByteArray} {maxL index : Nat} {nA : Nat} {ret : Option FieldType} {rmy : Room} {As st : List Value} {fy : Option np_O} (hM : np_Mi gA l D cl tys wd y (.code y bytes maxL ret :: Ts) rmy As σ fy) (hall : np_good Ts) (w1 : .methodLink own index y ∈ Ts) (w2 : .static y ∈ Ts) (w4 : .initialized y.cls ∈ Ts) (w5 : .code y bytes maxL ret ∈ Ts) (hd : y.cls ≠ "java/lang/invoke/MethodHandle" ∧ y.cls ≠ "java/lang/invoke/VarHandle" ∧ (parseMethodDescriptor y.desc).map (fun d => d.parameters.length) = some nA) (hnA : As.length = nA) (hR : rmy.cells = 0 ∧ rmy.slots = 0 ∧ rmy.frames + 1 ≤ rm.frames ∧ 8 + (maxL + 11) + rmy.locals ≤ rm.locals) (hat : np_At D cl A wd s σ H locs) (hst : st = As.reverse ++ rest) (hls : ls.size = nL) (hcs : cells + 0 ≤ R.cells ∧ slots + 0 ≤ R.slots) (hrest : (rest.map fun v => v.category).sum ≤ 8) (hdg : decode cc pc = .ok (.invokestatic index, 3)) {α : Type} {k : np_O → Option α} {o : α} (hf : fy.bind k = some o)
    (kk : ∀ (r : np_O) (H : Heap) (locs : List Loc), k r = some o → np_At D cl A wd s r.2 H locs → W p l e R s m args below meth c H locs cells slots Q (F0 m (pc + 3) ls (.int (np_i r.1) :: rest))) : W p l e R s m args below meth c H locs cells slots Q (F0 m pc ls st) := by
  obtain ⟨r, hfy, hfk⟩ := Option.bind_eq_some_iff.mp hf
  have hFc := np_freeA C hat
  subst hst
  have hRR : rmy.frames + 1 ≤ R.frames ∧ 8 + (maxL + 11) + rmy.locals ≤ R.locals := by rw [C.r]; exact hR.2.2
  have hG : ∀ w ∈ (.code y bytes maxL ret :: Ts), w ∈ Ts := fun w hw => by
    rcases List.mem_cons.mp hw with rfl | hw
    · exact w5
    · exact hw
  refine va_calli (va_runS (As := As) (rest := rest) C.1 (hM H.size r hfy) ⟨callB_of nA C.t (np_goodIn hall hG) rfl hR.1 hR.2.1 (C.t _ w4) (C.t _ w1) hd hRR, C.t _ w2⟩ ⟨np_blind, np_preU C hat⟩ rfl hnA hls rfl (lv_room hrest) hdg hcs) hat.2.2 (fun q _ h => hFc q h) hFc (fun r1 u t H1 locs ht hvm hw hB hz1 hk1 hS => ?_)
  obtain ⟨rfl, rfl⟩ := hw
  obtain ⟨hP1, hK1, hD1⟩ := hB
  rw [ht] at hP1
  exact kk r H1 locs hfk ⟨hP1, hD1.weaken (fun _ _ _ h => hFc _ h), hS⟩
theorem np_gcallVl (C : np_Cx gA p R s m args c D cl tys A Ts own cc nL rm) {y : MethodName} {bytes : ByteArray} {maxL index : Nat} {nA : Nat} {ret : Option FieldType} {rmy : Room} {As st : List Value} {a : Nat} {fy : Option np_O} (hM : np_Ml gA l D cl tys wd y (.code y bytes maxL ret :: Ts) rmy (.ref a :: As) σ fy) (hall : np_good Ts) (w1 : .methodLink own index y ∈ Ts) (w2 : .instanceMethod y ∈ Ts) (w3 : .selects y.cls y y ∈ Ts) (w4 : .initialized y.cls ∈ Ts) (w5 : .code y bytes maxL ret ∈ Ts) (hd : y.cls ≠ "java/lang/invoke/MethodHandle" ∧ y.cls ≠ "java/lang/invoke/VarHandle" ∧ (parseMethodDescriptor y.desc).map (fun d => d.parameters.length) = some nA) (hnA : As.length = nA) (hR : rmy.cells = 0 ∧ rmy.slots = 0 ∧ rmy.frames + 1 ≤ rm.frames ∧ 8 + (maxL + 11) + rmy.locals ≤ rm.locals) (hrecv : ∃ cell : Cell, H[a]? = some cell ∧ cell.vm.isStatics = false ∧ s.vm.findClass y.cls = some cell.cls) (hat : np_At D cl A wd s σ H locs) (hst : st = As.reverse ++ .ref a :: rest) (hls : ls.size = nL) (hcs : cells + 0 ≤ R.cells ∧ slots + 0 ≤ R.slots) (hrest : (rest.map fun v => v.category).sum ≤ 8) (hdg : decode cc pc = .ok (.invokevirtual index, 3)) {α : Type} {k : np_O → Option α} {o : α} (hf : fy.bind k = some o)
    (kk : ∀ (r : np_O) (H : Heap) (locs : List Loc), k r = some o → np_At D cl A wd s r.2 H locs → W p l e R s m args below meth c H locs cells slots Q (F0 m (pc + 3) ls (.long (np_l r.1) :: rest))) : W p l e R s m args below meth c H locs cells slots Q (F0 m pc ls st) := by
  obtain ⟨r, hfy, hfk⟩ := Option.bind_eq_some_iff.mp hf
  have hFc := np_freeA C hat
  subst hst
  have hRR : rmy.frames + 1 ≤ R.frames ∧ 8 + (maxL + 11) + rmy.locals ≤ R.locals := by rw [C.r]; exact hR.2.2
  have hG : ∀ w ∈ (.code y bytes maxL ret :: Ts), w ∈ Ts := fun w hw => by
    rcases List.mem_cons.mp hw with rfl | hw
    · exact w5
    · exact hw
  refine va_calll (va_runV (As := As) (rest := rest) C.1 (hM H.size r hfy) ⟨callB_of nA C.t (np_goodIn hall hG) rfl hR.1 hR.2.1 (C.t _ w4) (C.t _ w1) hd hRR, C.t _ w2, C.t _ w3⟩ ⟨np_blind, hrecv, np_preU C hat⟩ rfl hnA hls rfl (lv_room hrest) hdg hcs) hat.2.2 (fun q _ h => hFc q h) hFc (fun r1 u t H1 locs ht hvm hw hB hz1 hk1 hS => ?_)
  obtain ⟨rfl, rfl⟩ := hw
  obtain ⟨hP1, hK1, hD1⟩ := hB
  rw [ht] at hP1
  exact kk r H1 locs hfk ⟨hP1, hD1.weaken (fun _ _ _ h => hFc _ h), hS⟩
theorem np_gcallSl (C : np_Cx gA p R s m args c D cl tys A Ts own cc nL rm) {y : MethodName} {bytes : ByteArray} {maxL index : Nat} {nA : Nat} {ret : Option FieldType} {rmy : Room} {As st : List Value} {fy : Option np_O} (hM : np_Ml gA l D cl tys wd y (.code y bytes maxL ret :: Ts) rmy As σ fy) (hall : np_good Ts) (w1 : .methodLink own index y ∈ Ts) (w2 : .static y ∈ Ts) (w4 : .initialized y.cls ∈ Ts) (w5 : .code y bytes maxL ret ∈ Ts) (hd : y.cls ≠ "java/lang/invoke/MethodHandle" ∧ y.cls ≠ "java/lang/invoke/VarHandle" ∧ (parseMethodDescriptor y.desc).map (fun d => d.parameters.length) = some nA) (hnA : As.length = nA) (hR : rmy.cells = 0 ∧ rmy.slots = 0 ∧ rmy.frames + 1 ≤ rm.frames ∧ 8 + (maxL + 11) + rmy.locals ≤ rm.locals) (hat : np_At D cl A wd s σ H locs) (hst : st = As.reverse ++ rest) (hls : ls.size = nL) (hcs : cells + 0 ≤ R.cells ∧ slots + 0 ≤ R.slots) (hrest : (rest.map fun v => v.category).sum ≤ 8) (hdg : decode cc pc = .ok (.invokestatic index, 3)) {α : Type} {k : np_O → Option α} {o : α} (hf : fy.bind k = some o)
    (kk : ∀ (r : np_O) (H : Heap) (locs : List Loc), k r = some o → np_At D cl A wd s r.2 H locs → W p l e R s m args below meth c H locs cells slots Q (F0 m (pc + 3) ls (.long (np_l r.1) :: rest))) : W p l e R s m args below meth c H locs cells slots Q (F0 m pc ls st) := by
  obtain ⟨r, hfy, hfk⟩ := Option.bind_eq_some_iff.mp hf
  have hFc := np_freeA C hat
  subst hst
  have hRR : rmy.frames + 1 ≤ R.frames ∧ 8 + (maxL + 11) + rmy.locals ≤ R.locals := by rw [C.r]; exact hR.2.2
  have hG : ∀ w ∈ (.code y bytes maxL ret :: Ts), w ∈ Ts := fun w hw => by
    rcases List.mem_cons.mp hw with rfl | hw
    · exact w5
    · exact hw
  refine va_calll (va_runS (As := As) (rest := rest) C.1 (hM H.size r hfy) ⟨callB_of nA C.t (np_goodIn hall hG) rfl hR.1 hR.2.1 (C.t _ w4) (C.t _ w1) hd hRR, C.t _ w2⟩ ⟨np_blind, np_preU C hat⟩ rfl hnA hls rfl (lv_room hrest) hdg hcs) hat.2.2 (fun q _ h => hFc q h) hFc (fun r1 u t H1 locs ht hvm hw hB hz1 hk1 hS => ?_)
  obtain ⟨rfl, rfl⟩ := hw
  obtain ⟨hP1, hK1, hD1⟩ := hB
  rw [ht] at hP1
  exact kk r H1 locs hfk ⟨hP1, hD1.weaken (fun _ _ _ h => hFc _ h), hS⟩
theorem np_gcallVv (C : np_Cx gA p R s m args c D cl tys A Ts own cc nL rm) {y : MethodName} {bytes : ByteArray} {maxL index : Nat} {nA : Nat} {ret : Option FieldType} {rmy : Room} {As st : List Value} {a : Nat} {fy : Option np_O} (hM : np_Mv gA l D cl tys wd y (.code y bytes maxL ret :: Ts) rmy (.ref a :: As) σ fy) (hall : np_good Ts) (w1 : .methodLink own index y ∈ Ts) (w2 : .instanceMethod y ∈ Ts) (w3 : .selects y.cls y y ∈ Ts) (w4 : .initialized y.cls ∈ Ts) (w5 : .code y bytes maxL ret ∈ Ts) (hd : y.cls ≠ "java/lang/invoke/MethodHandle" ∧ y.cls ≠ "java/lang/invoke/VarHandle" ∧ (parseMethodDescriptor y.desc).map (fun d => d.parameters.length) = some nA) (hnA : As.length = nA) (hR : rmy.cells = 0 ∧ rmy.slots = 0 ∧ rmy.frames + 1 ≤ rm.frames ∧ 8 + (maxL + 11) + rmy.locals ≤ rm.locals) (hrecv : ∃ cell : Cell, H[a]? = some cell ∧ cell.vm.isStatics = false ∧ s.vm.findClass y.cls = some cell.cls) (hat : np_At D cl A wd s σ H locs) (hst : st = As.reverse ++ .ref a :: rest) (hls : ls.size = nL) (hcs : cells + 0 ≤ R.cells ∧ slots + 0 ≤ R.slots) (hrest : (rest.map fun v => v.category).sum ≤ 8) (hdg : decode cc pc = .ok (.invokevirtual index, 3)) {α : Type} {k : np_O → Option α} {o : α} (hf : fy.bind k = some o)
    (kk : ∀ (r : np_O) (H : Heap) (locs : List Loc), k r = some o → np_At D cl A wd s r.2 H locs → W p l e R s m args below meth c H locs cells slots Q (F0 m (pc + 3) ls (rest))) : W p l e R s m args below meth c H locs cells slots Q (F0 m pc ls st) := by
  obtain ⟨r, hfy, hfk⟩ := Option.bind_eq_some_iff.mp hf
  have hFc := np_freeA C hat
  subst hst
  have hRR : rmy.frames + 1 ≤ R.frames ∧ 8 + (maxL + 11) + rmy.locals ≤ R.locals := by rw [C.r]; exact hR.2.2
  have hG : ∀ w ∈ (.code y bytes maxL ret :: Ts), w ∈ Ts := fun w hw => by
    rcases List.mem_cons.mp hw with rfl | hw
    · exact w5
    · exact hw
  refine va_callv (va_runV (As := As) (rest := rest) C.1 (hM H.size r hfy) ⟨callB_of nA C.t (np_goodIn hall hG) rfl hR.1 hR.2.1 (C.t _ w4) (C.t _ w1) hd hRR, C.t _ w2, C.t _ w3⟩ ⟨np_blind, hrecv, np_preU C hat⟩ rfl hnA hls rfl (lv_room hrest) hdg hcs) hat.2.2 (fun q _ h => hFc q h) hFc (fun u t H1 locs ht hvm hw hB hz1 hk1 hS => ?_)
  subst hw
  obtain ⟨hP1, hK1, hD1⟩ := hB
  rw [ht] at hP1
  exact kk r H1 locs hfk ⟨hP1, hD1.weaken (fun _ _ _ h => hFc _ h), hS⟩
theorem np_gcallSv (C : np_Cx gA p R s m args c D cl tys A Ts own cc nL rm) {y : MethodName} {bytes : ByteArray} {maxL index : Nat} {nA : Nat} {ret : Option FieldType} {rmy : Room} {As st : List Value} {fy : Option np_O} (hM : np_Mv gA l D cl tys wd y (.code y bytes maxL ret :: Ts) rmy As σ fy) (hall : np_good Ts) (w1 : .methodLink own index y ∈ Ts) (w2 : .static y ∈ Ts) (w4 : .initialized y.cls ∈ Ts) (w5 : .code y bytes maxL ret ∈ Ts) (hd : y.cls ≠ "java/lang/invoke/MethodHandle" ∧ y.cls ≠ "java/lang/invoke/VarHandle" ∧ (parseMethodDescriptor y.desc).map (fun d => d.parameters.length) = some nA) (hnA : As.length = nA) (hR : rmy.cells = 0 ∧ rmy.slots = 0 ∧ rmy.frames + 1 ≤ rm.frames ∧ 8 + (maxL + 11) + rmy.locals ≤ rm.locals) (hat : np_At D cl A wd s σ H locs) (hst : st = As.reverse ++ rest) (hls : ls.size = nL) (hcs : cells + 0 ≤ R.cells ∧ slots + 0 ≤ R.slots) (hrest : (rest.map fun v => v.category).sum ≤ 8) (hdg : decode cc pc = .ok (.invokestatic index, 3)) {α : Type} {k : np_O → Option α} {o : α} (hf : fy.bind k = some o)
    (kk : ∀ (r : np_O) (H : Heap) (locs : List Loc), k r = some o → np_At D cl A wd s r.2 H locs → W p l e R s m args below meth c H locs cells slots Q (F0 m (pc + 3) ls (rest))) : W p l e R s m args below meth c H locs cells slots Q (F0 m pc ls st) := by
  obtain ⟨r, hfy, hfk⟩ := Option.bind_eq_some_iff.mp hf
  have hFc := np_freeA C hat
  subst hst
  have hRR : rmy.frames + 1 ≤ R.frames ∧ 8 + (maxL + 11) + rmy.locals ≤ R.locals := by rw [C.r]; exact hR.2.2
  have hG : ∀ w ∈ (.code y bytes maxL ret :: Ts), w ∈ Ts := fun w hw => by
    rcases List.mem_cons.mp hw with rfl | hw
    · exact w5
    · exact hw
  refine va_callv (va_runS (As := As) (rest := rest) C.1 (hM H.size r hfy) ⟨callB_of nA C.t (np_goodIn hall hG) rfl hR.1 hR.2.1 (C.t _ w4) (C.t _ w1) hd hRR, C.t _ w2⟩ ⟨np_blind, np_preU C hat⟩ rfl hnA hls rfl (lv_room hrest) hdg hcs) hat.2.2 (fun q _ h => hFc q h) hFc (fun u t H1 locs ht hvm hw hB hz1 hk1 hS => ?_)
  subst hw
  obtain ⟨hP1, hK1, hD1⟩ := hB
  rw [ht] at hP1
  exact kk r H1 locs hfk ⟨hP1, hD1.weaken (fun _ _ _ h => hFc _ h), hS⟩

/-- the law's call of a wrapper: a static method with an exception table -/
theorem np_callW (C : np_Cx gA p R s m args c D cl tys A Ts own cc nL rm) {y : MethodName} {bytes : ByteArray} {maxL index nA : Nat} {ret : Option FieldType} {hh : List (Nat × Nat × Nat × Nat)} {rmy : Room} {As st : List Value} {fy : Option np_O} (hM : np_Mi1 gA l D cl tys wd y (.codeWith y bytes maxL ret hh :: Ts) rmy As σ fy) (hall : np_good Ts) (w1 : .methodLink own index y ∈ Ts) (w2 : .static y ∈ Ts) (w4 : .initialized y.cls ∈ Ts) (w5 : .codeWith y bytes maxL ret hh ∈ Ts) (hd : y.cls ≠ "java/lang/invoke/MethodHandle" ∧ y.cls ≠ "java/lang/invoke/VarHandle" ∧ (parseMethodDescriptor y.desc).map (fun d => d.parameters.length) = some nA) (hnA : As.length = nA) (hR : rmy.cells = 1 ∧ rmy.slots = 6 ∧ rmy.frames + 1 ≤ rm.frames ∧ 8 + (maxL + 11) + rmy.locals ≤ rm.locals) (hat : np_At D cl A wd s σ H locs) (hst : st = As.reverse ++ rest) (hls : ls.size = nL) (hcs : cells + 1 ≤ R.cells ∧ slots + 6 ≤ R.slots) (hrest : (rest.map fun v => v.category).sum ≤ 8) (hdg : decode cc pc = .ok (.invokestatic index, 3)) {α : Type} {k : np_O → Option α} {o : α} (hf : fy.bind k = some o)
    (kk : ∀ (r : np_O) (H : Heap) (locs : List Loc), k r = some o → np_At D cl A wd s r.2 H locs → W p l e R s m args below meth c H locs (cells + 1) (slots + 6) Q (F0 m (pc + 3) ls (.int (np_i r.1) :: rest))) : W p l e R s m args below meth c H locs cells slots Q (F0 m pc ls st) := by
  obtain ⟨r, hfy, hfk⟩ := Option.bind_eq_some_iff.mp hf
  have hFc := np_freeA C hat
  subst hst
  have hRR : rmy.frames + 1 ≤ R.frames ∧ 8 + (maxL + 11) + rmy.locals ≤ R.locals := by rw [C.r]; exact hR.2.2
  have hws : ∀ w ∈ (.codeWith y bytes maxL ret hh :: Ts), ∀ (a' : Array Value) (U : State), s.WarmedH U.vm → w.before a' U = true := by
    intro w hw a' U hW
    rcases List.mem_cons.mp hw with rfl | hw
    · exact word_at hW (hall _ w5) (C.t _ w5)
    · exact word_at hW (hall _ hw) (C.t _ hw)
  have hB : Back l R p e below s args y 3 8 (PreOf R 1 6 (va_Pc As (np_Pre gA D cl tys wd σ H.size))) (PostOf (va_Qi (fun (r1 : Int32) (u : np_S) => r1 = np_i r.1 ∧ u = r.2) (np_B D cl tys (va_A (wd σ) H.size) wd) (va_A (wd σ) H.size)) 1 6 (va_A (wd σ) H.size)) :=
    va_backW (bytes := bytes) (maxL := maxL) (ret := ret) (hh := hh) (hM H.size r hfy) np_blind hR.1 hR.2.1 hRR.1 hRR.2 hws List.mem_cons_self (fun a' U hW => word_at hW (hall _ w4) (C.t _ w4))
  have hrun : va_Run p l e R s m args below meth c H locs cells slots 1 6 (F0 m pc ls (As.reverse ++ rest)) rest ((va_Qi (fun (r1 : Int32) (u : np_S) => r1 = np_i r.1 ∧ u = r.2) (np_B D cl tys (va_A (wd σ) H.size) wd) (va_A (wd σ) H.size)) As.toArray) (va_A (wd σ) H.size) := by
    intro T hT X
    obtain ⟨mk, methM, cM, hnamed, hmethM, -, -, -, -, -, -, hsigM⟩ := Cond.codeWith_spec (show (Cond.codeWith y bytes maxL ret hh).holds args s none s [] = true from C.t _ w5)
    have hstatic : methM.isStatic = true := Cond.static_spec hnamed hmethM (C.t _ w2)
    obtain ⟨kP, hkP, -⟩ := className_of_methodNamed hnamed
    have hinitP : kP.init = .initialized := Cond.initialized_spec (findClass_of_methodNamed hnamed) hkP (C.t _ w4)
    have hlen : As.length = methM.sig.parameters.length := by
      have h2 := hd.2.2
      rw [hsigM] at h2
      exact hnA.trans (Option.some.inj h2).symm
    obtain ⟨vm₁, X₁, hstep₁⟩ := X.invokestatic C.x C.o (C.t _ w1) hnamed hmethM hstatic hkP hinitP ⟨hd.1, hd.2.1⟩ (g := F0 m pc ls (As.reverse ++ rest)) rfl (argsL := As) (rest := rest) hlen rfl (by rw [C.b]; exact hdg)
    obtain ⟨v, ⟨U', l2, c2, s2⟩, X', ⟨g', mk', t, L, e1, e2, hq, h1, hL, h2, h3⟩, hsteps⟩ := hB m meth c ⟨T.setVm vm₁, locs, cells, slots⟩ (F0 m pc ls rest) (.invokestatic index) mk As.toArray X₁ rfl (hls.trans C.ml.symm) (by rw [C.b]; exact hdg) (lv_room hrest) (X₁.named hnamed) ⟨hcs.1, hcs.2, np_preU C hat (T.setVm vm₁) hT X₁.warmed⟩
    dsimp only [Pt.U, Pt.locs, Pt.cells, Pt.slots] at X' e1 e2 h1 h2 h3 hsteps
    subst h1; subst h2; subst h3
    exact ⟨v, _, t, U', L, hT, X', hL, e1, e2, hq, fun target h => hstep₁ _ (fun acts => by rw [doInvoke_state]; exact hsteps.trans h)⟩
  refine va_calli hrun hat.2.2 (fun q _ h => hFc q h) hFc (fun r1 u t H1 locs ht hvm hw hB hz1 hk1 hS => ?_)
  obtain ⟨rfl, rfl⟩ := hw
  obtain ⟨hP1, hK1, hD1⟩ := hB
  rw [ht] at hP1
  exact kk r H1 locs hfk ⟨hP1, hD1.weaken (fun _ _ _ h => hFc _ h), hS⟩
/-- the script: its length, its ints -/
def np_sc (xs : Nat → Int32) (j : Int) : Int := (xs j.toNat).toInt
theorem np_slen (C : np_Cx gA p R s m args c D cl tys A Ts own cc nL rm) {b L : Nat} {xs : Nat → Int32} (hX : va_X b L xs s s.heap) (hbl : b < s.heap.size) (hbA : ¬ A b) (hat : np_At D cl A wd s σ H locs) (hdg : decode cc pc = .ok (.arraylength, 1)) (kk : W p l e R s m args below meth c H locs cells slots Q (F0 m (pc + 1) ls (.int (np_i (L : Int)) :: rest))) : W p l e R s m args below meth c H locs cells slots Q (F0 m pc ls (.ref b :: rest)) :=
  va_slen C.x C.b hX hbl hbA hat.2.2 hdg (by rw [np_nat] at kk; exact kk)
theorem np_sld (C : np_Cx gA p R s m args c D cl tys A Ts own cc nL rm) {b L : Nat} {xs : Nat → Int32} {j : Int} (hX : va_X b L xs s s.heap) (hbl : b < s.heap.size) (hbA : ¬ A b) (hLs : L < 2147483648) (hat : np_At D cl A wd s σ H locs) (hdg : decode cc pc = .ok (.iaload, 1)) {α : Type} {f1 : Option α} {o : α} (hf : np_ck (0 ≤ j ∧ j < (L : Int)) f1 = some o) (kk : f1 = some o → W p l e R s m args below meth c H locs cells slots Q (F0 m (pc + 1) ls (.int (np_i (np_sc xs j)) :: rest))) : W p l e R s m args below meth c H locs cells slots Q (F0 m pc ls (.int (np_i j) :: .ref b :: rest)) := by
  obtain ⟨⟨h1, h2⟩, hf⟩ := np_ck_e hf
  refine va_sld C.x C.b hX hbl hbA hat.2.2 (np_in h1 h2 hLs) hdg ?_
  rw [np_clamp h1 ⟨by omega, by omega⟩]
  have k := kk hf
  unfold np_sc at k
  rw [np_i_toInt] at k
  exact k
end NPL
