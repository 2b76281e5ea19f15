/-- a contract's start: the whole world, holding σ -/
def np_Pre (gA : Nat → Nat) (D : va_G) (cl : List vw_C) (tys : List (ClassId × FieldType)) (wd : np_S → va_W) (σ : np_S) (sz : Nat) : State → Prop := fun U => U.heap.size = sz ∧ va_P D cl (wd σ) U.heap ∧ va_K D cl tys U ∧ va_D (fun _ => True) (wd σ) ∧ np_E gA (va_A (wd σ) sz) U U.heap
def np_B (D : va_G) (cl : List vw_C) (tys : List (ClassId × FieldType)) (A : Nat → Prop) (wd : np_S → va_W) : np_S → State → Prop := fun u t => va_P D cl (wd u) t.heap ∧ va_K D cl tys t ∧ va_D A (wd u)
/-- contracts: where the function fy answers o, the method answers o.1 and leaves the store o.2 -/
def np_Mi (gA : Nat → Nat) (l : Launch) (D : va_G) (cl : List vw_C) (tys : List (ClassId × FieldType)) (wd : np_S → va_W) (y : MethodName) (ws : List Cond) (rm : Room) (avs : List Value) (σ : np_S) (fy : Option np_O) : Prop :=
  ∀ (sz : Nat) (o : np_O), fy = some o → Met l y ws rm (va_Pc avs (np_Pre gA D cl tys wd σ sz)) (va_Qi (fun (r : Int32) (u : np_S) => r = np_i o.1 ∧ u = o.2) (np_B D cl tys (va_A (wd σ) sz) wd) (va_A (wd σ) sz)) 0 0 (va_A (wd σ) sz)
def np_Ml (gA : Nat → Nat) (l : Launch) (D : va_G) (cl : List vw_C) (tys : List (ClassId × FieldType)) (wd : np_S → va_W) (y : MethodName) (ws : List Cond) (rm : Room) (avs : List Value) (σ : np_S) (fy : Option np_O) : Prop :=
  ∀ (sz : Nat) (o : np_O), fy = some o → Met l y ws rm (va_Pc avs (np_Pre gA D cl tys wd σ sz)) (va_Ql (fun (r : Int64) (u : np_S) => r = np_l o.1 ∧ u = o.2) (np_B D cl tys (va_A (wd σ) sz) wd) (va_A (wd σ) sz)) 0 0 (va_A (wd σ) sz)
def np_Mv (gA : Nat → Nat) (l : Launch) (D : va_G) (cl : List vw_C) (tys : List (ClassId × FieldType)) (wd : np_S → va_W) (y : MethodName) (ws : List Cond) (rm : Room) (avs : List Value) (σ : np_S) (fy : Option np_O) : Prop :=
  ∀ (sz : Nat) (o : np_O), fy = some o → Met l y ws rm (va_Pc avs (np_Pre gA D cl tys wd σ sz)) (va_Qv (fun (u : np_S) => u = o.2) (np_B D cl tys (va_A (wd σ) sz) wd) (va_A (wd σ) sz)) 0 0 (va_A (wd σ) sz)
abbrev np_good (AL : List Cond) : Prop := ∀ w ∈ AL, (w.onTables && w.keeps) = true ∨ ∃ ty, w = .arrayClass ty
theorem np_goodIn {AL ws : List Cond} (hall : np_good AL) (h : ∀ w ∈ ws, w ∈ AL) : GoodIn AL ws := fun w hw => ⟨h w hw, hall w (h w hw)⟩
theorem np_blind {gA : Nat → Nat} {D : va_G} {cl : List vw_C} {tys : List (ClassId × FieldType)} {wd : np_S → va_W} {σ : np_S} {sz : Nat} {avs : List Value} : FrameBlind (va_Pc avs (np_Pre gA D cl tys wd σ sz)) := by
  intro a U g mk q
  obtain ⟨q0, q1, qP, qK, qD, qE⟩ := q
  exact ⟨q0, q1, qP, va_K.moved (u := U) (U := U.calling g mk a) (Vm.Alike.refl U.vm) qK, qD, np_E.same (u := U) rfl qE⟩
theorem np_noSt {D : va_G} {cl : List vw_C} {ws : va_W} {H : Heap} (hP : va_P D cl ws H) : ∀ (a : Nat) (cell : Cell), va_A ws H.size a → H[a]? = some cell → cell.vm.isStatics = false := by
  intro a cell hA hc
  rcases hA with ⟨k, e, hk⟩ | h
  · have h1 := hP k _ hk
    cases e with
    | inl x =>
      have h2 : H[a]? = some (vp_cell x.1 x.2) := h1
      cases h2.symm.trans hc
      obtain ⟨cA, n, f | f | f | f | f⟩ := x <;> rfl
    | inr x =>
      obtain ⟨r, -, cell2, q1, q2, q3, -⟩ := h1
      cases q1.symm.trans hc
      rw [q3]; rfl
  · have h2 := (Array.getElem?_eq_some_iff.mp hc).1
    omega
section NPC
variable {p : Program} {l : Launch} {e : Env} {R : Room} {s : State} {m : MethodId} {args : Array Value} {below : List Frame} {meth : Method} {c : Code} {H : Heap} {locs : List Loc} {cells slots : Nat} {Q : State → Prop}
variable {cc : ByteArray} {pc : Nat} {ls : Array Slot} {rest : List Value} {D : va_G} {cl : List vw_C} {tys : List (ClassId × FieldType)} {A : Nat → Prop} {Ts : List Cond} {own : String} {nL : Nat} {rm : Room} {wd : np_S → va_W} {σ : np_S} {gA : Nat → Nat}
theorem np_freeA (C : np_Cx gA p R s m args c D cl tys A Ts own cc nL rm) (hat : np_At D cl A wd s σ H locs) : ∀ q, va_A (wd σ) H.size q → A q := by
  intro q h
  rcases h with ⟨k, e, h⟩ | h
  · exact hat.2.1.2 k _ h
  · exact C.a q (Nat.le_trans hat.2.2.1 h)
theorem np_preU (C : np_Cx gA p R s m args c D cl tys A Ts own cc nL rm) (hat : np_At D cl A wd s σ H locs) {avs : List Value} : ∀ U : State, U.heap = H → s.WarmedH U.vm → va_Pc avs (np_Pre gA D cl tys wd σ H.size) avs.toArray U := fun U hU hW => ⟨rfl, by rw [hU], by rw [hU]; exact hat.1, va_K.moved hW.alike C.k, hat.2.1.weaken (fun _ _ _ _ => trivial), by rw [hU]; exact ((C.en.kept hat.2.2.2.1).narrow (np_freeA C hat)).warm hW⟩
theorem np_callVi (C : np_Cx gA p R s m args c D cl tys A Ts own cc nL rm) {y : MethodName} {bytes : ByteArray} {maxL index : Nat} {nA : Nat} {ret : Option FieldType} {rmy : Room} {As st : List Value} {a : Nat} {fy : Option np_O} (hM : np_Mi gA l D cl tys wd y (.code y bytes maxL ret :: Ts) rmy (.ref a :: As) σ fy) (hall : np_good Ts) (w1 : .methodLink own index y ∈ Ts) (w2 : .instanceMethod y ∈ Ts) (w3 : .selects y.cls y y ∈ Ts) (w4 : .initialized y.cls ∈ Ts) (w5 : .code y bytes maxL ret ∈ Ts) (hd : y.cls ≠ "java/lang/invoke/MethodHandle" ∧ y.cls ≠ "java/lang/invoke/VarHandle" ∧ (parseMethodDescriptor y.desc).map (fun d => d.parameters.length) = some nA) (hnA : As.length = nA) (hR : rmy.cells = 0 ∧ rmy.slots = 0 ∧ rmy.frames + 1 ≤ rm.frames ∧ 8 + (maxL + 11) + rmy.locals ≤ rm.locals) (hrecv : ∃ cell : Cell, H[a]? = some cell ∧ cell.vm.isStatics = false ∧ s.vm.findClass y.cls = some cell.cls) (hat : np_At D cl A wd s σ H locs) (hst : st = As.reverse ++ .ref a :: rest) (hls : ls.size = nL) (hrest : (rest.map fun v => v.category).sum ≤ 8) (hdg : decode cc pc = .ok (.invokevirtual index, 3)) {α : Type} {k : np_O → Option α} {o : α} (hf : fy.bind k = some o)
    (kk : ∀ (r : np_O) (H : Heap) (locs : List Loc), k r = some o → np_At D cl A wd s r.2 H locs → W p l e R s m args below meth c H locs 0 0 Q (F0 m (pc + 3) ls (.int (np_i r.1) :: rest))) : W p l e R s m args below meth c H locs 0 0 Q (F0 m pc ls st) := by
  obtain ⟨r, hfy, hfk⟩ := Option.bind_eq_some_iff.mp hf
  have hFc := np_freeA C hat
  subst hst
  have hRR : rmy.frames + 1 ≤ R.frames ∧ 8 + (maxL + 11) + rmy.locals ≤ R.locals := by rw [C.r]; exact hR.2.2
  have hG : ∀ w ∈ (.code y bytes maxL ret :: Ts), w ∈ Ts := fun w hw => by
    rcases List.mem_cons.mp hw with rfl | hw
    · exact w5
    · exact hw
  refine va_calli (va_runV (As := As) (rest := rest) C.1 (hM H.size r hfy) ⟨callB_of nA C.t (np_goodIn hall hG) rfl hR.1 hR.2.1 (C.t _ w4) (C.t _ w1) hd hRR, C.t _ w2, C.t _ w3⟩ ⟨np_blind, hrecv, np_preU C hat⟩ rfl hnA hls rfl (lv_room hrest) hdg ⟨Nat.zero_le _, Nat.zero_le _⟩) hat.2.2 (fun q _ h => hFc q h) hFc (fun r1 u t H1 locs ht hvm hw hB hz1 hk1 hS => ?_)
  obtain ⟨rfl, rfl⟩ := hw
  obtain ⟨hP1, hK1, hD1⟩ := hB
  rw [ht] at hP1
  exact kk r H1 locs hfk ⟨hP1, hD1.weaken (fun _ _ _ h => hFc _ h), hS⟩
theorem np_callSi (C : np_Cx gA p R s m args c D cl tys A Ts own cc nL rm) {y : MethodName} {bytes : ByteArray} {maxL index : Nat} {nA : Nat} {ret : Option FieldType} {rmy : Room} {As st : List Value} {fy : Option np_O} (hM : np_Mi gA l D cl tys wd y (.code y bytes maxL ret :: Ts) rmy As σ fy) (hall : np_good Ts) (w1 : .methodLink own index y ∈ Ts) (w2 : .static y ∈ Ts) (w4 : .initialized y.cls ∈ Ts) (w5 : .code y bytes maxL ret ∈ Ts) (hd : y.cls ≠ "java/lang/invoke/MethodHandle" ∧ y.cls ≠ "java/lang/invoke/VarHandle" ∧ (parseMethodDescriptor y.desc).map (fun d => d.parameters.length) = some nA) (hnA : As.length = nA) (hR : rmy.cells = 0 ∧ rmy.slots = 0 ∧ rmy.frames + 1 ≤ rm.frames ∧ 8 + (maxL + 11) + rmy.locals ≤ rm.locals) (hat : np_At D cl A wd s σ H locs) (hst : st = As.reverse ++ rest) (hls : ls.size = nL) (hrest : (rest.map fun v => v.category).sum ≤ 8) (hdg : decode cc pc = .ok (.invokestatic index, 3)) {α : Type} {k : np_O → Option α} {o : α} (hf : fy.bind k = some o)
    (kk : ∀ (r : np_O) (H : Heap) (locs : List Loc), k r = some o → np_At D cl A wd s r.2 H locs → W p l e R s m args below meth c H locs 0 0 Q (F0 m (pc + 3) ls (.int (np_i r.1) :: rest))) : W p l e R s m args below meth c H locs 0 0 Q (F0 m pc ls st) := by
  obtain ⟨r, hfy, hfk⟩ := Option.bind_eq_some_iff.mp hf
  have hFc := np_freeA C hat
  subst hst
  have hRR : rmy.frames + 1 ≤ R.frames ∧ 8 + (maxL + 11) + rmy.locals ≤ R.locals := by rw [C.r]; exact hR.2.2
  have hG : ∀ w ∈ (.code y bytes maxL ret :: Ts), w ∈ Ts := fun w hw => by
    rcases List.mem_cons.mp hw with rfl | hw
    · exact w5
    · exact hw
  refine va_calli (va_runS (As := As) (rest := rest) C.1 (hM H.size r hfy) ⟨callB_of nA C.t (np_goodIn hall hG) rfl hR.1 hR.2.1 (C.t _ w4) (C.t _ w1) hd hRR, C.t _ w2⟩ ⟨np_blind, np_preU C hat⟩ rfl hnA hls rfl (lv_room hrest) hdg ⟨Nat.zero_le _, Nat.zero_le _⟩) hat.2.2 (fun q _ h => hFc q h) hFc (fun r1 u t H1 locs ht hvm hw hB hz1 hk1 hS => ?_)
  obtain ⟨rfl, rfl⟩ := hw
  obtain ⟨hP1, hK1, hD1⟩ := hB
  rw [ht] at hP1
  exact kk r H1 locs hfk ⟨hP1, hD1.weaken (fun _ _ _ h => hFc _ h), hS⟩
theorem np_callVl (C : np_Cx gA p R s m args c D cl tys A Ts own cc nL rm) {y : MethodName} {bytes : ByteArray} {maxL index : Nat} {nA : Nat} {ret : Option FieldType} {rmy : Room} {As st : List Value} {a : Nat} {fy : Option np_O} (hM : np_Ml gA l D cl tys wd y (.code y bytes maxL ret :: Ts) rmy (.ref a :: As) σ fy) (hall : np_good Ts) (w1 : .methodLink own index y ∈ Ts) (w2 : .instanceMethod y ∈ Ts) (w3 : .selects y.cls y y ∈ Ts) (w4 : .initialized y.cls ∈ Ts) (w5 : .code y bytes maxL ret ∈ Ts) (hd : y.cls ≠ "java/lang/invoke/MethodHandle" ∧ y.cls ≠ "java/lang/invoke/VarHandle" ∧ (parseMethodDescriptor y.desc).map (fun d => d.parameters.length) = some nA) (hnA : As.length = nA) (hR : rmy.cells = 0 ∧ rmy.slots = 0 ∧ rmy.frames + 1 ≤ rm.frames ∧ 8 + (maxL + 11) + rmy.locals ≤ rm.locals) (hrecv : ∃ cell : Cell, H[a]? = some cell ∧ cell.vm.isStatics = false ∧ s.vm.findClass y.cls = some cell.cls) (hat : np_At D cl A wd s σ H locs) (hst : st = As.reverse ++ .ref a :: rest) (hls : ls.size = nL) (hrest : (rest.map fun v => v.category).sum ≤ 8) (hdg : decode cc pc = .ok (.invokevirtual index, 3)) {α : Type} {k : np_O → Option α} {o : α} (hf : fy.bind k = some o)
    (kk : ∀ (r : np_O) (H : Heap) (locs : List Loc), k r = some o → np_At D cl A wd s r.2 H locs → W p l e R s m args below meth c H locs 0 0 Q (F0 m (pc + 3) ls (.long (np_l r.1) :: rest))) : W p l e R s m args below meth c H locs 0 0 Q (F0 m pc ls st) := by
  obtain ⟨r, hfy, hfk⟩ := Option.bind_eq_some_iff.mp hf
  have hFc := np_freeA C hat
  subst hst
  have hRR : rmy.frames + 1 ≤ R.frames ∧ 8 + (maxL + 11) + rmy.locals ≤ R.locals := by rw [C.r]; exact hR.2.2
  have hG : ∀ w ∈ (.code y bytes maxL ret :: Ts), w ∈ Ts := fun w hw => by
    rcases List.mem_cons.mp hw with rfl | hw
    · exact w5
    · exact hw
  refine va_calll (va_runV (As := As) (rest := rest) C.1 (hM H.size r hfy) ⟨callB_of nA C.t (np_goodIn hall hG) rfl hR.1 hR.2.1 (C.t _ w4) (C.t _ w1) hd hRR, C.t _ w2, C.t _ w3⟩ ⟨np_blind, hrecv, np_preU C hat⟩ rfl hnA hls rfl (lv_room hrest) hdg ⟨Nat.zero_le _, Nat.zero_le _⟩) hat.2.2 (fun q _ h => hFc q h) hFc (fun r1 u t H1 locs ht hvm hw hB hz1 hk1 hS => ?_)
  obtain ⟨rfl, rfl⟩ := hw
  obtain ⟨hP1, hK1, hD1⟩ := hB
  rw [ht] at hP1
  exact kk r H1 locs hfk ⟨hP1, hD1.weaken (fun _ _ _ h => hFc _ h), hS⟩
theorem np_callSl (C : np_Cx gA p R s m args c D cl tys A Ts own cc nL rm) {y : MethodName} {bytes : ByteArray} {maxL index : Nat} {nA : Nat} {ret : Option FieldType} {rmy : Room} {As st : List Value} {fy : Option np_O} (hM : np_Ml gA l D cl tys wd y (.code y bytes maxL ret :: Ts) rmy As σ fy) (hall : np_good Ts) (w1 : .methodLink own index y ∈ Ts) (w2 : .static y ∈ Ts) (w4 : .initialized y.cls ∈ Ts) (w5 : .code y bytes maxL ret ∈ Ts) (hd : y.cls ≠ "java/lang/invoke/MethodHandle" ∧ y.cls ≠ "java/lang/invoke/VarHandle" ∧ (parseMethodDescriptor y.desc).map (fun d => d.parameters.length) = some nA) (hnA : As.length = nA) (hR : rmy.cells = 0 ∧ rmy.slots = 0 ∧ rmy.frames + 1 ≤ rm.frames ∧ 8 + (maxL + 11) + rmy.locals ≤ rm.locals) (hat : np_At D cl A wd s σ H locs) (hst : st = As.reverse ++ rest) (hls : ls.size = nL) (hrest : (rest.map fun v => v.category).sum ≤ 8) (hdg : decode cc pc = .ok (.invokestatic index, 3)) {α : Type} {k : np_O → Option α} {o : α} (hf : fy.bind k = some o)
    (kk : ∀ (r : np_O) (H : Heap) (locs : List Loc), k r = some o → np_At D cl A wd s r.2 H locs → W p l e R s m args below meth c H locs 0 0 Q (F0 m (pc + 3) ls (.long (np_l r.1) :: rest))) : W p l e R s m args below meth c H locs 0 0 Q (F0 m pc ls st) := by
  obtain ⟨r, hfy, hfk⟩ := Option.bind_eq_some_iff.mp hf
  have hFc := np_freeA C hat
  subst hst
  have hRR : rmy.frames + 1 ≤ R.frames ∧ 8 + (maxL + 11) + rmy.locals ≤ R.locals := by rw [C.r]; exact hR.2.2
  have hG : ∀ w ∈ (.code y bytes maxL ret :: Ts), w ∈ Ts := fun w hw => by
    rcases List.mem_cons.mp hw with rfl | hw
    · exact w5
    · exact hw
  refine va_calll (va_runS (As := As) (rest := rest) C.1 (hM H.size r hfy) ⟨callB_of nA C.t (np_goodIn hall hG) rfl hR.1 hR.2.1 (C.t _ w4) (C.t _ w1) hd hRR, C.t _ w2⟩ ⟨np_blind, np_preU C hat⟩ rfl hnA hls rfl (lv_room hrest) hdg ⟨Nat.zero_le _, Nat.zero_le _⟩) hat.2.2 (fun q _ h => hFc q h) hFc (fun r1 u t H1 locs ht hvm hw hB hz1 hk1 hS => ?_)
  obtain ⟨rfl, rfl⟩ := hw
  obtain ⟨hP1, hK1, hD1⟩ := hB
  rw [ht] at hP1
  exact kk r H1 locs hfk ⟨hP1, hD1.weaken (fun _ _ _ h => hFc _ h), hS⟩
theorem np_callVv (C : np_Cx gA p R s m args c D cl tys A Ts own cc nL rm) {y : MethodName} {bytes : ByteArray} {maxL index : Nat} {nA : Nat} {ret : Option FieldType} {rmy : Room} {As st : List Value} {a : Nat} {fy : Option np_O} (hM : np_Mv gA l D cl tys wd y (.code y bytes maxL ret :: Ts) rmy (.ref a :: As) σ fy) (hall : np_good Ts) (w1 : .methodLink own index y ∈ Ts) (w2 : .instanceMethod y ∈ Ts) (w3 : .selects y.cls y y ∈ Ts) (w4 : .initialized y.cls ∈ Ts) (w5 : .code y bytes maxL ret ∈ Ts) (hd : y.cls ≠ "java/lang/invoke/MethodHandle" ∧ y.cls ≠ "java/lang/invoke/VarHandle" ∧ (parseMethodDescriptor y.desc).map (fun d => d.parameters.length) = some nA) (hnA : As.length = nA) (hR : rmy.cells = 0 ∧ rmy.slots = 0 ∧ rmy.frames + 1 ≤ rm.frames ∧ 8 + (maxL + 11) + rmy.locals ≤ rm.locals) (hrecv : ∃ cell : Cell, H[a]? = some cell ∧ cell.vm.isStatics = false ∧ s.vm.findClass y.cls = some cell.cls) (hat : np_At D cl A wd s σ H locs) (hst : st = As.reverse ++ .ref a :: rest) (hls : ls.size = nL) (hrest : (rest.map fun v => v.category).sum ≤ 8) (hdg : decode cc pc = .ok (.invokevirtual index, 3)) {α : Type} {k : np_O → Option α} {o : α} (hf : fy.bind k = some o)
    (kk : ∀ (r : np_O) (H : Heap) (locs : List Loc), k r = some o → np_At D cl A wd s r.2 H locs → W p l e R s m args below meth c H locs 0 0 Q (F0 m (pc + 3) ls (rest))) : W p l e R s m args below meth c H locs 0 0 Q (F0 m pc ls st) := by
  obtain ⟨r, hfy, hfk⟩ := Option.bind_eq_some_iff.mp hf
  have hFc := np_freeA C hat
  subst hst
  have hRR : rmy.frames + 1 ≤ R.frames ∧ 8 + (maxL + 11) + rmy.locals ≤ R.locals := by rw [C.r]; exact hR.2.2
  have hG : ∀ w ∈ (.code y bytes maxL ret :: Ts), w ∈ Ts := fun w hw => by
    rcases List.mem_cons.mp hw with rfl | hw
    · exact w5
    · exact hw
  refine va_callv (va_runV (As := As) (rest := rest) C.1 (hM H.size r hfy) ⟨callB_of nA C.t (np_goodIn hall hG) rfl hR.1 hR.2.1 (C.t _ w4) (C.t _ w1) hd hRR, C.t _ w2, C.t _ w3⟩ ⟨np_blind, hrecv, np_preU C hat⟩ rfl hnA hls rfl (lv_room hrest) hdg ⟨Nat.zero_le _, Nat.zero_le _⟩) hat.2.2 (fun q _ h => hFc q h) hFc (fun u t H1 locs ht hvm hw hB hz1 hk1 hS => ?_)
  subst hw
  obtain ⟨hP1, hK1, hD1⟩ := hB
  rw [ht] at hP1
  exact kk r H1 locs hfk ⟨hP1, hD1.weaken (fun _ _ _ h => hFc _ h), hS⟩
theorem np_callSv (C : np_Cx gA p R s m args c D cl tys A Ts own cc nL rm) {y : MethodName} {bytes : ByteArray} {maxL index : Nat} {nA : Nat} {ret : Option FieldType} {rmy : Room} {As st : List Value} {fy : Option np_O} (hM : np_Mv gA l D cl tys wd y (.code y bytes maxL ret :: Ts) rmy As σ fy) (hall : np_good Ts) (w1 : .methodLink own index y ∈ Ts) (w2 : .static y ∈ Ts) (w4 : .initialized y.cls ∈ Ts) (w5 : .code y bytes maxL ret ∈ Ts) (hd : y.cls ≠ "java/lang/invoke/MethodHandle" ∧ y.cls ≠ "java/lang/invoke/VarHandle" ∧ (parseMethodDescriptor y.desc).map (fun d => d.parameters.length) = some nA) (hnA : As.length = nA) (hR : rmy.cells = 0 ∧ rmy.slots = 0 ∧ rmy.frames + 1 ≤ rm.frames ∧ 8 + (maxL + 11) + rmy.locals ≤ rm.locals) (hat : np_At D cl A wd s σ H locs) (hst : st = As.reverse ++ rest) (hls : ls.size = nL) (hrest : (rest.map fun v => v.category).sum ≤ 8) (hdg : decode cc pc = .ok (.invokestatic index, 3)) {α : Type} {k : np_O → Option α} {o : α} (hf : fy.bind k = some o)
    (kk : ∀ (r : np_O) (H : Heap) (locs : List Loc), k r = some o → np_At D cl A wd s r.2 H locs → W p l e R s m args below meth c H locs 0 0 Q (F0 m (pc + 3) ls (rest))) : W p l e R s m args below meth c H locs 0 0 Q (F0 m pc ls st) := by
  obtain ⟨r, hfy, hfk⟩ := Option.bind_eq_some_iff.mp hf
  have hFc := np_freeA C hat
  subst hst
  have hRR : rmy.frames + 1 ≤ R.frames ∧ 8 + (maxL + 11) + rmy.locals ≤ R.locals := by rw [C.r]; exact hR.2.2
  have hG : ∀ w ∈ (.code y bytes maxL ret :: Ts), w ∈ Ts := fun w hw => by
    rcases List.mem_cons.mp hw with rfl | hw
    · exact w5
    · exact hw
  refine va_callv (va_runS (As := As) (rest := rest) C.1 (hM H.size r hfy) ⟨callB_of nA C.t (np_goodIn hall hG) rfl hR.1 hR.2.1 (C.t _ w4) (C.t _ w1) hd hRR, C.t _ w2⟩ ⟨np_blind, np_preU C hat⟩ rfl hnA hls rfl (lv_room hrest) hdg ⟨Nat.zero_le _, Nat.zero_le _⟩) hat.2.2 (fun q _ h => hFc q h) hFc (fun u t H1 locs ht hvm hw hB hz1 hk1 hS => ?_)
  subst hw
  obtain ⟨hP1, hK1, hD1⟩ := hB
  rw [ht] at hP1
  exact kk r H1 locs hfk ⟨hP1, hD1.weaken (fun _ _ _ h => hFc _ h), hS⟩
theorem np_mmin (C : np_Cx gA p R s m args c D cl tys A Ts own cc nL rm) {index : Nat} {x y : Int} (w1 : .methodLink own index Lib.Math.min.name ∈ Ts) (w2 : .static Lib.Math.min.name ∈ Ts) (w3 : .initialized "java/lang/Math" ∈ Ts) (w4 : .code Lib.Math.min.name Lib.Math.min.code 2 (some .int) ∈ Ts) (hfr : 1 ≤ rm.frames) (hlo : (rest.map fun v => v.category).sum + 13 ≤ rm.locals) (hls : ls.size = nL) (hdg : decode cc pc = .ok (.invokestatic index, 3)) {α : Type} {f1 : Option α} {o : α} (hf : np_ck (np_R x ∧ np_R y) f1 = some o) (kk : f1 = some o → W p l e R s m args below meth c H locs 0 0 Q (F0 m (pc + 3) ls (.int (np_i (np_min x y)) :: rest))) : W p l e R s m args below meth c H locs 0 0 Q (F0 m pc ls (.int (np_i y) :: .int (np_i x) :: rest)) := by
  obtain ⟨⟨h1, h2⟩, hf⟩ := np_ck_e hf
  have hr := C.r
  refine va_mmin C.x C.b (C.ml.trans hls.symm) C.o (C.t _ w1) (C.t _ w2) (C.t _ w3) (C.t _ w4) (by rw [hr]; exact hfr) (by rw [hr]; exact hlo) (Nat.zero_le _) (Nat.zero_le _) hdg ?_
  have e : (if np_i y < np_i x then np_i y else np_i x) = np_i (np_min x y) := by
    unfold np_min
    by_cases a : y < x
    · rw [if_pos ((np_lt h2 h1).mpr a), if_pos a]
    · rw [if_neg (fun q => a ((np_lt h2 h1).mp q)), if_neg a]
  rw [e]
  exact kk hf
theorem np_mmax (C : np_Cx gA p R s m args c D cl tys A Ts own cc nL rm) {index : Nat} {x y : Int} (w1 : .methodLink own index Lib.Math.max.name ∈ Ts) (w2 : .static Lib.Math.max.name ∈ Ts) (w3 : .initialized "java/lang/Math" ∈ Ts) (w4 : .code Lib.Math.max.name Lib.Math.max.code 2 (some .int) ∈ Ts) (hfr : 1 ≤ rm.frames) (hlo : (rest.map fun v => v.category).sum + 13 ≤ rm.locals) (hls : ls.size = nL) (hdg : decode cc pc = .ok (.invokestatic index, 3)) {α : Type} {f1 : Option α} {o : α} (hf : np_ck (np_R x ∧ np_R y) f1 = some o) (kk : f1 = some o → W p l e R s m args below meth c H locs 0 0 Q (F0 m (pc + 3) ls (.int (np_i (np_max x y)) :: rest))) : W p l e R s m args below meth c H locs 0 0 Q (F0 m pc ls (.int (np_i y) :: .int (np_i x) :: rest)) := by
  obtain ⟨⟨h1, h2⟩, hf⟩ := np_ck_e hf
  have hr := C.r
  refine va_mmax C.x C.b (C.ml.trans hls.symm) C.o (C.t _ w1) (C.t _ w2) (C.t _ w3) (C.t _ w4) (by rw [hr]; exact hfr) (by rw [hr]; exact hlo) (Nat.zero_le _) (Nat.zero_le _) hdg ?_
  have e : (if np_i x < np_i y then np_i y else np_i x) = np_i (np_max x y) := by
    unfold np_max
    by_cases a : x < y
    · rw [if_pos ((np_lt h1 h2).mpr a), if_pos a]
    · rw [if_neg (fun q => a ((np_lt h1 h2).mp q)), if_neg a]
  rw [e]
  exact kk hf
theorem np_mmin_l (C : np_Cx gA p R s m args c D cl tys A Ts own cc nL rm) {index : Nat} {x y : Int} (w1 : .methodLink own index Lib.MathLoose.min_long.x ∈ Ts) (w2 : .static Lib.MathLoose.min_long.x ∈ Ts) (w3 : .initialized "java/lang/Math" ∈ Ts) (w4 : .code Lib.MathLoose.min_long.x Lib.MathLoose.min_long.code 4 (some .long) ∈ Ts) (hfr : 1 ≤ rm.frames) (hlo : (rest.map fun v => v.category).sum + 15 ≤ rm.locals) (hls : ls.size = nL) (hdg : decode cc pc = .ok (.invokestatic index, 3)) {α : Type} {f1 : Option α} {o : α} (hf : np_ck (np_R6 x ∧ np_R6 y) f1 = some o) (kk : f1 = some o → W p l e R s m args below meth c H locs 0 0 Q (F0 m (pc + 3) ls (.long (np_l (np_min x y)) :: rest))) : W p l e R s m args below meth c H locs 0 0 Q (F0 m pc ls (.long (np_l y) :: .long (np_l x) :: rest)) := by
  obtain ⟨⟨h1, h2⟩, hf⟩ := np_ck_e hf
  have hr := C.r
  refine va_mmin_long C.x C.b (C.ml.trans hls.symm) C.o (C.t _ w1) (C.t _ w2) (C.t _ w3) (C.t _ w4) (by rw [hr]; exact hfr) (by rw [hr]; exact hlo) (Nat.zero_le _) (Nat.zero_le _) hdg ?_
  have e : (if np_l y < np_l x then np_l y else np_l x) = np_l (np_min x y) := by
    unfold np_min
    by_cases a : y < x
    · rw [if_pos ((np_lt6 h2 h1).mpr a), if_pos a]
    · rw [if_neg (fun q => a ((np_lt6 h2 h1).mp q)), if_neg a]
  rw [e]
  exact kk hf
end NPC
theorem np_mki {gA : Nat → Nat} {l : Launch} {D : va_G} {cl : List vw_C} {tys : List (ClassId × FieldType)} {wd : np_S → va_W} {y : MethodName} {cc : ByteArray} {nL : Nat} {AL : List Cond} {rm : Room} {avs : List Value} {σ : np_S} {fy : Option np_O} (hy : plainName y.cls = true) (hlen : (lg_sl avs).length ≤ nL)
    (body : ∀ (o : np_O) (p : Program) (e : Env) (R : Room) (s : State) (m : MethodId) (args : Array Value) (below : List Frame) (meth : Method) (c : Code) (Q : State → Prop) (A : Nat → Prop) (ls : Array Slot), fy = some o → np_Cx gA p R s m args c D cl tys A AL y.cls cc nL rm →
      (∀ (pc : Nat) (ls : Array Slot) (H : Heap) (locs : List Loc) (v : Int) {σ2 : np_S}, decode cc pc = .ok (.ireturn, 1) → some (v, σ2) = some o → np_At D cl A wd s σ2 H locs → W p l e R s m args below meth c H locs 0 0 Q (F0 m pc ls [.int (np_i v)])) →
      np_At D cl A wd s σ s.heap [] → lv_has ls nL (lv_args 0 avs) → W p l e R s m args below meth c s.heap [] 0 0 Q (F0 m 0 ls [])) : np_Mi gA l D cl tys wd y (.code y cc nL (some .int) :: AL) rm avs σ fy := by
  intro sz o hfy
  refine Met.ofW (cc := cc) (maxL := nL) (ret := (some .int)) hy rfl ?_
  intro p e s m args below meth c s₁ B hml hv
  obtain ⟨rfl, hsz, hP, hK, hD0, hE⟩ := hv
  subst hsz
  have hts := atoms_spec (ws := .code y cc nL (some .int) :: AL) B.pre
  have hown : s.vm.findClass y.cls = some m.cls := findClass_of_methodNamed B.named
  have hlocks := B.notSynchronized
  rw [lg_entry_eq]
  have hC : np_Cx gA p (headSpec (.code y cc nL (some .int) :: AL) rm).room s m avs.toArray c D cl tys (va_A (wd σ) s.heap.size) AL y.cls cc nL rm := ⟨⟨B.exec, B.bytes, hml, hown, fun w hw => hts w (List.mem_cons_of_mem _ hw)⟩, hK, fun a h => Or.inr h, rfl, hE, np_noSt hP⟩
  refine body o p e _ s m _ below meth c _ (va_A (wd σ) s.heap.size) _ hfy hC (fun pc ls H locs v σ2 hdg ho hat => ?_) ⟨hP, hD0.self, va_S.rf⟩ (lv_entry avs hlen)
  have ho := Option.some.inj ho
  subst ho
  exact W.iret (v := np_i v) hC.x hC.b B.returns (fun t ht hW => ⟨⟨np_i v, σ2, rfl, ⟨rfl, rfl⟩, by rw [ht]; exact hat.1, va_K.moved hW.alike hK, hat.2.1⟩, hat.2.2.F ht⟩) hat.2.2.2.2 hdg hlocks
theorem np_mkz {gA : Nat → Nat} {l : Launch} {D : va_G} {cl : List vw_C} {tys : List (ClassId × FieldType)} {wd : np_S → va_W} {y : MethodName} {cc : ByteArray} {nL : Nat} {AL : List Cond} {rm : Room} {avs : List Value} {σ : np_S} {fy : Option np_O} (hy : plainName y.cls = true) (hlen : (lg_sl avs).length ≤ nL)
    (body : ∀ (o : np_O) (p : Program) (e : Env) (R : Room) (s : State) (m : MethodId) (args : Array Value) (below : List Frame) (meth : Method) (c : Code) (Q : State → Prop) (A : Nat → Prop) (ls : Array Slot), fy = some o → np_Cx gA p R s m args c D cl tys A AL y.cls cc nL rm →
      (∀ (pc : Nat) (ls : Array Slot) (H : Heap) (locs : List Loc) (v : Int) {σ2 : np_S}, decode cc pc = .ok (.ireturn, 1) → np_ck (v = 0 ∨ v = 1) (some (v, σ2)) = some o → np_At D cl A wd s σ2 H locs → W p l e R s m args below meth c H locs 0 0 Q (F0 m pc ls [.int (np_i v)])) →
      np_At D cl A wd s σ s.heap [] → lv_has ls nL (lv_args 0 avs) → W p l e R s m args below meth c s.heap [] 0 0 Q (F0 m 0 ls [])) : np_Mi gA l D cl tys wd y (.code y cc nL (some .boolean) :: AL) rm avs σ fy := by
  intro sz o hfy
  refine Met.ofW (cc := cc) (maxL := nL) (ret := (some .boolean)) hy rfl ?_
  intro p e s m args below meth c s₁ B hml hv
  obtain ⟨rfl, hsz, hP, hK, hD0, hE⟩ := hv
  subst hsz
  have hts := atoms_spec (ws := .code y cc nL (some .boolean) :: AL) B.pre
  have hown : s.vm.findClass y.cls = some m.cls := findClass_of_methodNamed B.named
  have hlocks := B.notSynchronized
  rw [lg_entry_eq]
  have hC : np_Cx gA p (headSpec (.code y cc nL (some .boolean) :: AL) rm).room s m avs.toArray c D cl tys (va_A (wd σ) s.heap.size) AL y.cls cc nL rm := ⟨⟨B.exec, B.bytes, hml, hown, fun w hw => hts w (List.mem_cons_of_mem _ hw)⟩, hK, fun a h => Or.inr h, rfl, hE, np_noSt hP⟩
  refine body o p e _ s m _ below meth c _ (va_A (wd σ) s.heap.size) _ hfy hC (fun pc ls H locs v σ2 hdg ho hat => ?_) ⟨hP, hD0.self, va_S.rf⟩ (lv_entry avs hlen)
  obtain ⟨hz, ho⟩ := np_ck_e ho
  have ho := Option.some.inj ho
  subst ho
  exact W.zret hC.x hC.b B.returns (by rcases hz with h | h <;> (subst h; decide +kernel)) (fun t ht hW => ⟨⟨np_i v, σ2, rfl, ⟨rfl, rfl⟩, by rw [ht]; exact hat.1, va_K.moved hW.alike hK, hat.2.1⟩, hat.2.2.F ht⟩) hat.2.2.2.2 hdg hlocks
theorem np_mkb {gA : Nat → Nat} {l : Launch} {D : va_G} {cl : List vw_C} {tys : List (ClassId × FieldType)} {wd : np_S → va_W} {y : MethodName} {cc : ByteArray} {nL : Nat} {AL : List Cond} {rm : Room} {avs : List Value} {σ : np_S} {fy : Option np_O} (hy : plainName y.cls = true) (hlen : (lg_sl avs).length ≤ nL)
    (body : ∀ (o : np_O) (p : Program) (e : Env) (R : Room) (s : State) (m : MethodId) (args : Array Value) (below : List Frame) (meth : Method) (c : Code) (Q : State → Prop) (A : Nat → Prop) (ls : Array Slot), fy = some o → np_Cx gA p R s m args c D cl tys A AL y.cls cc nL rm →
      (∀ (pc : Nat) (ls : Array Slot) (H : Heap) (locs : List Loc) (v : Int) {σ2 : np_S}, decode cc pc = .ok (.ireturn, 1) → np_ck (v = 0 ∨ v = 1) (some (v, σ2)) = some o → np_At D cl A wd s σ2 H locs → W p l e R s m args below meth c H locs 0 0 Q (F0 m pc ls [.int (np_i v)])) →
      np_At D cl A wd s σ s.heap [] → lv_has ls nL (lv_args 0 avs) → W p l e R s m args below meth c s.heap [] 0 0 Q (F0 m 0 ls [])) : np_Mi gA l D cl tys wd y (.code y cc nL (some .byte) :: AL) rm avs σ fy := by
  intro sz o hfy
  refine Met.ofW (cc := cc) (maxL := nL) (ret := (some .byte)) hy rfl ?_
  intro p e s m args below meth c s₁ B hml hv
  obtain ⟨rfl, hsz, hP, hK, hD0, hE⟩ := hv
  subst hsz
  have hts := atoms_spec (ws := .code y cc nL (some .byte) :: AL) B.pre
  have hown : s.vm.findClass y.cls = some m.cls := findClass_of_methodNamed B.named
  have hlocks := B.notSynchronized
  rw [lg_entry_eq]
  have hC : np_Cx gA p (headSpec (.code y cc nL (some .byte) :: AL) rm).room s m avs.toArray c D cl tys (va_A (wd σ) s.heap.size) AL y.cls cc nL rm := ⟨⟨B.exec, B.bytes, hml, hown, fun w hw => hts w (List.mem_cons_of_mem _ hw)⟩, hK, fun a h => Or.inr h, rfl, hE, np_noSt hP⟩
  refine body o p e _ s m _ below meth c _ (va_A (wd σ) s.heap.size) _ hfy hC (fun pc ls H locs v σ2 hdg ho hat => ?_) ⟨hP, hD0.self, va_S.rf⟩ (lv_entry avs hlen)
  obtain ⟨hz, ho⟩ := np_ck_e ho
  have ho := Option.some.inj ho
  subst ho
  exact W.zret hC.x hC.b B.returns (by rcases hz with h | h <;> (subst h; decide +kernel)) (fun t ht hW => ⟨⟨np_i v, σ2, rfl, ⟨rfl, rfl⟩, by rw [ht]; exact hat.1, va_K.moved hW.alike hK, hat.2.1⟩, hat.2.2.F ht⟩) hat.2.2.2.2 hdg hlocks
theorem np_mkl {gA : Nat → Nat} {l : Launch} {D : va_G} {cl : List vw_C} {tys : List (ClassId × FieldType)} {wd : np_S → va_W} {y : MethodName} {cc : ByteArray} {nL : Nat} {AL : List Cond} {rm : Room} {avs : List Value} {σ : np_S} {fy : Option np_O} (hy : plainName y.cls = true) (hlen : (lg_sl avs).length ≤ nL)
    (body : ∀ (o : np_O) (p : Program) (e : Env) (R : Room) (s : State) (m : MethodId) (args : Array Value) (below : List Frame) (meth : Method) (c : Code) (Q : State → Prop) (A : Nat → Prop) (ls : Array Slot), fy = some o → np_Cx gA p R s m args c D cl tys A AL y.cls cc nL rm →
      (∀ (pc : Nat) (ls : Array Slot) (H : Heap) (locs : List Loc) (v : Int) {σ2 : np_S}, decode cc pc = .ok (.lreturn, 1) → some (v, σ2) = some o → np_At D cl A wd s σ2 H locs → W p l e R s m args below meth c H locs 0 0 Q (F0 m pc ls [.long (np_l v)])) →
      np_At D cl A wd s σ s.heap [] → lv_has ls nL (lv_args 0 avs) → W p l e R s m args below meth c s.heap [] 0 0 Q (F0 m 0 ls [])) : np_Ml gA l D cl tys wd y (.code y cc nL (some .long) :: AL) rm avs σ fy := by
  intro sz o hfy
  refine Met.ofW (cc := cc) (maxL := nL) (ret := (some .long)) hy rfl ?_
  intro p e s m args below meth c s₁ B hml hv
  obtain ⟨rfl, hsz, hP, hK, hD0, hE⟩ := hv
  subst hsz
  have hts := atoms_spec (ws := .code y cc nL (some .long) :: AL) B.pre
  have hown : s.vm.findClass y.cls = some m.cls := findClass_of_methodNamed B.named
  have hlocks := B.notSynchronized
  rw [lg_entry_eq]
  have hC : np_Cx gA p (headSpec (.code y cc nL (some .long) :: AL) rm).room s m avs.toArray c D cl tys (va_A (wd σ) s.heap.size) AL y.cls cc nL rm := ⟨⟨B.exec, B.bytes, hml, hown, fun w hw => hts w (List.mem_cons_of_mem _ hw)⟩, hK, fun a h => Or.inr h, rfl, hE, np_noSt hP⟩
  refine body o p e _ s m _ below meth c _ (va_A (wd σ) s.heap.size) _ hfy hC (fun pc ls H locs v σ2 hdg ho hat => ?_) ⟨hP, hD0.self, va_S.rf⟩ (lv_entry avs hlen)
  have ho := Option.some.inj ho
  subst ho
  exact W.lret (v := np_l v) hC.x hC.b B.returns (fun t ht hW => ⟨⟨np_l v, σ2, rfl, ⟨rfl, rfl⟩, by rw [ht]; exact hat.1, va_K.moved hW.alike hK, hat.2.1⟩, hat.2.2.F ht⟩) hat.2.2.2.2 hdg hlocks
theorem np_mkv {gA : Nat → Nat} {l : Launch} {D : va_G} {cl : List vw_C} {tys : List (ClassId × FieldType)} {wd : np_S → va_W} {y : MethodName} {cc : ByteArray} {nL : Nat} {AL : List Cond} {rm : Room} {avs : List Value} {σ : np_S} {fy : Option np_O} (hy : plainName y.cls = true) (hlen : (lg_sl avs).length ≤ nL)
    (body : ∀ (o : np_O) (p : Program) (e : Env) (R : Room) (s : State) (m : MethodId) (args : Array Value) (below : List Frame) (meth : Method) (c : Code) (Q : State → Prop) (A : Nat → Prop) (ls : Array Slot), fy = some o → np_Cx gA p R s m args c D cl tys A AL y.cls cc nL rm →
      (∀ (pc : Nat) (ls : Array Slot) (H : Heap) (locs : List Loc) {σ2 : np_S}, decode cc pc = .ok (.return_, 1) → some ((0 : Int), σ2) = some o → np_At D cl A wd s σ2 H locs → W p l e R s m args below meth c H locs 0 0 Q (F0 m pc ls [])) →
      np_At D cl A wd s σ s.heap [] → lv_has ls nL (lv_args 0 avs) → W p l e R s m args below meth c s.heap [] 0 0 Q (F0 m 0 ls [])) : np_Mv gA l D cl tys wd y (.code y cc nL none :: AL) rm avs σ fy := by
  intro sz o hfy
  refine Met.ofW (cc := cc) (maxL := nL) (ret := none) hy rfl ?_
  intro p e s m args below meth c s₁ B hml hv
  obtain ⟨rfl, hsz, hP, hK, hD0, hE⟩ := hv
  subst hsz
  have hts := atoms_spec (ws := .code y cc nL none :: AL) B.pre
  have hown : s.vm.findClass y.cls = some m.cls := findClass_of_methodNamed B.named
  have hlocks := B.notSynchronized
  rw [lg_entry_eq]
  have hC : np_Cx gA p (headSpec (.code y cc nL none :: AL) rm).room s m avs.toArray c D cl tys (va_A (wd σ) s.heap.size) AL y.cls cc nL rm := ⟨⟨B.exec, B.bytes, hml, hown, fun w hw => hts w (List.mem_cons_of_mem _ hw)⟩, hK, fun a h => Or.inr h, rfl, hE, np_noSt hP⟩
  refine body o p e _ s m _ below meth c _ (va_A (wd σ) s.heap.size) _ hfy hC (fun pc ls H locs σ2 hdg ho hat => ?_) ⟨hP, hD0.self, va_S.rf⟩ (lv_entry avs hlen)
  have ho := Option.some.inj ho
  subst ho
  exact W.vret hC.x hC.b B.returns (fun t ht hW => ⟨⟨σ2, rfl, rfl, by rw [ht]; exact hat.1, va_K.moved hW.alike hK, hat.2.1⟩, hat.2.2.F ht⟩) hat.2.2.2.2 hdg hlocks
theorem np_allgood : np_good np_al := fun w hw => good_of_word (List.mem_filter.mp hw).2
