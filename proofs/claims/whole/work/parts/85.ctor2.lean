section NPQ
variable {p : Program} {l : Launch} {e : Env} {R : Room} {s : State} {m : MethodId} {args : Array Value} {below : List Frame} {meth : Method} {c : Code} {H : Heap} {locs : List Loc} {cells slots : Nat} {Q : State → Prop}
variable {cc : ByteArray} {pc : Nat} {ls : Array Slot} {rest : List Value} {D : va_G} {cl : List vw_C} {tys : List (ClassId × FieldType)} {A : Nat → Prop} {Ts : List Cond} {own : String} {nL : Nat} {rm : Room} {wd : np_S → va_W} {σ : np_S} {gA : Nat → Nat} {ws : va_W}
theorem np_newo (C : np_Cx gA p R s m args c D cl tys A Ts own cc nL rm) {Cn : String} {T : u_T} {N ci index : Nat} {fs : List Value} (hin : ∀ w ∈ u_ws Cn T N, w ∈ Ts) (ty0 : Nat → FieldType) (hty : ∀ k, k < N → parseFieldDescriptor (T k).2.2.1 = some (ty0 k)) (w1 : .classLink own index Cn ∈ Ts) (w2 : .instantiable Cn N ∈ Ts) (w3 : .initialized Cn ∈ Ts) (hP : va_P D cl ws H) (hD : va_D A ws) (hS : va_S A s.heap H locs) (hc : cl[ci]? = some (Cn, T, N)) (hfs : ∀ j, j < N → defaultValue (ty0 j) = vp_V fs j) (hcells : cells + 1 ≤ rm.cells) (hslots : slots + N ≤ rm.slots) (hdg : decode cc pc = .ok (.new index, 3))
    (kk : ∀ (q : Nat) (H : Heap), va_P D cl (ws ++ [(q, .inr (ci, fs))]) H → va_D A (ws ++ [(q, .inr (ci, fs))]) → va_S A s.heap H locs → W p l e R s m args below meth c H locs (cells + 1) (slots + N) Q (F0 m (pc + 3) ls (.ref q :: rest))) : W p l e R s m args below meth c H locs cells slots Q (F0 m pc ls rest) := by
  have hr := C.r
  subst hr
  exact va_new C.x C.b C.t hin ty0 hty C.o (C.t _ w1) (C.t _ w2) (C.t _ w3) C.k hP hD hS C.a hc hfs hcells hslots hdg (fun q H1 h1 h2 h3 => kk q H1 h1 h2 h3)
theorem np_callC (C : np_Cx gA p R s m args c D cl tys A Ts own cc nL rm) {y : MethodName} {bytes : ByteArray} {maxL index nA mc ms a : Nat} {rmy : Room} {As st : List Value} {ws wr ws0 : va_W} {S : Type} {post : S → Prop} {wsf : S → va_W} (hM : Met l y (.code y bytes maxL none :: Ts) rmy (va_Pc (.ref a :: As) (np_PreC gA D cl tys ws0 H.size)) (va_Qv post (np_BC D cl tys (va_A ws0 H.size) wsf) (va_A ws0 H.size)) mc ms (va_A ws0 H.size)) (hall : np_good Ts) (w1 : .methodLink own index y ∈ Ts) (w2 : .instanceMethod y ∈ Ts) (w4 : .initialized y.cls ∈ Ts) (w5 : .code y bytes maxL none ∈ Ts) (hy1 : y.name = "<init>") (hd : y.cls ≠ "java/lang/invoke/MethodHandle" ∧ y.cls ≠ "java/lang/invoke/VarHandle" ∧ (parseMethodDescriptor y.desc).map (fun d => d.parameters.length) = some nA) (hnA : As.length = nA) (hR : rmy.cells = mc ∧ rmy.slots = ms ∧ rmy.frames + 1 ≤ rm.frames ∧ 8 + (maxL + 11) + rmy.locals ≤ rm.locals) (hws : ws = wr ++ ws0) (hP : va_P D cl ws H) (hD : va_D A ws) (hS : va_S A s.heap H locs) (hst : st = As.reverse ++ .ref a :: rest) (hls : ls.size = nL) (hcs : cells + mc ≤ rm.cells ∧ slots + ms ≤ rm.slots) (hrest : (rest.map fun v => v.category).sum ≤ 8) (hdg : decode cc pc = .ok (.invokespecial index, 3))
    (kk : ∀ (u : S) (H : Heap) (locs : List Loc), post u → va_P D cl (wr ++ wsf u) H → va_D A (wr ++ wsf u) → va_S A s.heap H locs → W p l e R s m args below meth c H locs (cells + mc) (slots + ms) Q (F0 m (pc + 3) ls rest)) : W p l e R s m args below meth c H locs cells slots Q (F0 m pc ls st) := by
  subst hws
  subst hst
  have hr := C.r
  subst hr
  have hP0 : va_P D cl ws0 H := fun k x hx => hP (wr.length + k) x (by rw [List.getElem?_append_right (Nat.le_add_right _ _), Nat.add_sub_cancel_left]; exact hx)
  have hD0 : va_D A ws0 := ⟨fun i j x y hx hy hxy => by
      have h1 := hD.1 (wr.length + i) (wr.length + j) x y (by rw [List.getElem?_append_right (Nat.le_add_right _ _), Nat.add_sub_cancel_left]; exact hx) (by rw [List.getElem?_append_right (Nat.le_add_right _ _), Nat.add_sub_cancel_left]; exact hy) hxy
      omega, fun k x hx => hD.2 (wr.length + k) x (by rw [List.getElem?_append_right (Nat.le_add_right _ _), Nat.add_sub_cancel_left]; exact hx)⟩
  have hFc : ∀ q, va_A ws0 H.size q → A q := by
    intro q h
    rcases h with ⟨k, e, h⟩ | h
    · exact hD0.2 k _ h
    · exact C.a q (Nat.le_trans hS.1 h)
  have hlw : ∀ (k : Nat) (x : Nat × va_E), wr[k]? = some x → (wr ++ ws0)[k]? = some x := fun k x hx => by
    rw [List.getElem?_append_left (List.getElem?_eq_some_iff.mp hx).1]; exact hx
  have hapart : ∀ (k : Nat) (x : Nat × va_E), wr[k]? = some x → ¬ va_A ws0 H.size x.1 := by
    intro k x hx h
    rcases h with ⟨k2, e, h⟩ | h
    · have h1 := hD.1 k (wr.length + k2) x (x.1, e) (hlw k x hx) (by rw [List.getElem?_append_right (Nat.le_add_right _ _), Nat.add_sub_cancel_left]; exact h) rfl
      have h2 := (List.getElem?_eq_some_iff.mp hx).1
      omega
    · have h1 := (hP k x (hlw k x hx)).lt
      omega
  have hG : ∀ w ∈ (.code y bytes maxL none :: Ts), w ∈ Ts := fun w hw => by
    rcases List.mem_cons.mp hw with rfl | hw
    · exact w5
    · exact hw
  have hbl : FrameBlind (va_Pc (.ref a :: As) (np_PreC gA D cl tys ws0 H.size)) := by
    intro a2 U g mk q
    obtain ⟨q0, q1, qP, qK, qD, qE⟩ := q
    exact ⟨q0, q1, qP, va_K.moved (u := U) (U := U.calling g mk a2) (Vm.Alike.refl U.vm) qK, qD, np_E.same (u := U) rfl qE⟩
  have hpre : ∀ U : State, U.heap = H → s.WarmedH U.vm → va_Pc (.ref a :: As) (np_PreC gA D cl tys ws0 H.size) (Value.ref a :: As).toArray U := fun U hU hW => ⟨rfl, by rw [hU], by rw [hU]; exact hP0, va_K.moved hW.alike C.k, hD0.weaken (fun _ _ _ _ => trivial), by rw [hU]; exact ((C.en.kept hS.2.1).narrow hFc).warm hW⟩
  refine va_callv (va_runI (As := As) (rest := rest) C.1 hM ⟨callB_of nA C.t (np_goodIn hall hG) rfl hR.1 hR.2.1 (C.t _ w4) (C.t _ w1) hd hR.2.2, hy1, C.t _ w2⟩ ⟨hbl, hpre⟩ rfl hnA hls rfl (lv_room hrest) hdg hcs) hS (fun q _ h => hFc q h) hFc (fun u t H1 locs ht hvm hw hB hz1 hk1 hS => ?_)
  obtain ⟨hP1, hK1, hD1⟩ := hB
  rw [ht] at hP1
  have hPr : va_P D cl wr H1 := fun k x hx => (hP k x (hlw k x hx)).kept (hk1 x.1 ((hP k x (hlw k x hx)).lt) (hapart k x hx))
  have hDr : va_D A wr := ⟨fun i j x y hx hy hxy => hD.1 i j x y (hlw i x hx) (hlw j y hy) hxy, fun k x hx => hD.2 k x (hlw k x hx)⟩
  exact kk u H1 locs hw (hPr.app hP1) (va_D.app hDr (hD1.weaken (fun _ _ _ h => hFc _ h)) (fun i j x y hx hy hxy => hapart i x hx (by rw [hxy]; exact hD1.2 j y hy))) hS
theorem np_callN (C : np_Cx gA p R s m args c D cl tys A Ts own cc nL rm) {y : MethodName} {bytes : ByteArray} {maxL index nA mc ms a : Nat} {host : String} {rmy : Room} {As st : List Value} {ws wr ws0 : va_W} {S : Type} {post : S → Prop} {wsf : S → va_W} (hM : Met l y (.code y bytes maxL none :: Ts) rmy (va_Pc (.ref a :: As) (np_PreC gA D cl tys ws0 H.size)) (va_Qv post (np_BC D cl tys (va_A ws0 H.size) wsf) (va_A ws0 H.size)) mc ms (va_A ws0 H.size)) (hall : np_good Ts) (w1 : va_Nw (.methodLinkNest own index y host) s) (w2 : .instanceMethod y ∈ Ts) (w4 : .initialized y.cls ∈ Ts) (w5 : .code y bytes maxL none ∈ Ts) (hy1 : y.name = "<init>") (hd : y.cls ≠ "java/lang/invoke/MethodHandle" ∧ y.cls ≠ "java/lang/invoke/VarHandle" ∧ (parseMethodDescriptor y.desc).map (fun d => d.parameters.length) = some nA) (hnA : As.length = nA) (hR : rmy.cells = mc ∧ rmy.slots = ms ∧ rmy.frames + 1 ≤ rm.frames ∧ 8 + (maxL + 11) + rmy.locals ≤ rm.locals) (hws : ws = wr ++ ws0) (hP : va_P D cl ws H) (hD : va_D A ws) (hS : va_S A s.heap H locs) (hst : st = As.reverse ++ .ref a :: rest) (hls : ls.size = nL) (hcs : cells + mc ≤ rm.cells ∧ slots + ms ≤ rm.slots) (hrest : (rest.map fun v => v.category).sum ≤ 8) (hdg : decode cc pc = .ok (.invokespecial index, 3))
    (kk : ∀ (u : S) (H : Heap) (locs : List Loc), post u → va_P D cl (wr ++ wsf u) H → va_D A (wr ++ wsf u) → va_S A s.heap H locs → W p l e R s m args below meth c H locs (cells + mc) (slots + ms) Q (F0 m (pc + 3) ls rest)) : W p l e R s m args below meth c H locs cells slots Q (F0 m pc ls st) := by
  subst hws
  subst hst
  have hr := C.r
  subst hr
  have hP0 : va_P D cl ws0 H := fun k x hx => hP (wr.length + k) x (by rw [List.getElem?_append_right (Nat.le_add_right _ _), Nat.add_sub_cancel_left]; exact hx)
  have hD0 : va_D A ws0 := ⟨fun i j x y hx hy hxy => by
      have h1 := hD.1 (wr.length + i) (wr.length + j) x y (by rw [List.getElem?_append_right (Nat.le_add_right _ _), Nat.add_sub_cancel_left]; exact hx) (by rw [List.getElem?_append_right (Nat.le_add_right _ _), Nat.add_sub_cancel_left]; exact hy) hxy
      omega, fun k x hx => hD.2 (wr.length + k) x (by rw [List.getElem?_append_right (Nat.le_add_right _ _), Nat.add_sub_cancel_left]; exact hx)⟩
  have hFc : ∀ q, va_A ws0 H.size q → A q := by
    intro q h
    rcases h with ⟨k, e, h⟩ | h
    · exact hD0.2 k _ h
    · exact C.a q (Nat.le_trans hS.1 h)
  have hlw : ∀ (k : Nat) (x : Nat × va_E), wr[k]? = some x → (wr ++ ws0)[k]? = some x := fun k x hx => by
    rw [List.getElem?_append_left (List.getElem?_eq_some_iff.mp hx).1]; exact hx
  have hapart : ∀ (k : Nat) (x : Nat × va_E), wr[k]? = some x → ¬ va_A ws0 H.size x.1 := by
    intro k x hx h
    rcases h with ⟨k2, e, h⟩ | h
    · have h1 := hD.1 k (wr.length + k2) x (x.1, e) (hlw k x hx) (by rw [List.getElem?_append_right (Nat.le_add_right _ _), Nat.add_sub_cancel_left]; exact h) rfl
      have h2 := (List.getElem?_eq_some_iff.mp hx).1
      omega
    · have h1 := (hP k x (hlw k x hx)).lt
      omega
  have hG : ∀ w ∈ (.code y bytes maxL none :: Ts), w ∈ Ts := fun w hw => by
    rcases List.mem_cons.mp hw with rfl | hw
    · exact w5
    · exact hw
  have hbl : FrameBlind (va_Pc (.ref a :: As) (np_PreC gA D cl tys ws0 H.size)) := by
    intro a2 U g mk q
    obtain ⟨q0, q1, qP, qK, qD, qE⟩ := q
    exact ⟨q0, q1, qP, va_K.moved (u := U) (U := U.calling g mk a2) (Vm.Alike.refl U.vm) qK, qD, np_E.same (u := U) rfl qE⟩
  have hpre : ∀ U : State, U.heap = H → s.WarmedH U.vm → va_Pc (.ref a :: As) (np_PreC gA D cl tys ws0 H.size) (Value.ref a :: As).toArray U := fun U hU hW => ⟨rfl, by rw [hU], by rw [hU]; exact hP0, va_K.moved hW.alike C.k, hD0.weaken (fun _ _ _ _ => trivial), by rw [hU]; exact ((C.en.kept hS.2.1).narrow hFc).warm hW⟩
  refine va_callv (va_runIN (As := As) (rest := rest) C.1 hM ⟨va_cnB nA C.t (np_goodIn hall hG) rfl hR.1 hR.2.1 w1 (C.t _ w4) hd hR.2.2, hy1, C.t _ w2⟩ ⟨hbl, hpre⟩ rfl hnA hls rfl (lv_room hrest) hdg hcs) hS (fun q _ h => hFc q h) hFc (fun u t H1 locs ht hvm hw hB hz1 hk1 hS => ?_)
  obtain ⟨hP1, hK1, hD1⟩ := hB
  rw [ht] at hP1
  have hPr : va_P D cl wr H1 := fun k x hx => (hP k x (hlw k x hx)).kept (hk1 x.1 ((hP k x (hlw k x hx)).lt) (hapart k x hx))
  have hDr : va_D A wr := ⟨fun i j x y hx hy hxy => hD.1 i j x y (hlw i x hx) (hlw j y hy) hxy, fun k x hx => hD.2 k x (hlw k x hx)⟩
  exact kk u H1 locs hw (hPr.app hP1) (va_D.app hDr (hD1.weaken (fun _ _ _ h => hFc _ h)) (fun i j x y hx hy hxy => hapart i x hx (by rw [hxy]; exact hD1.2 j y hy))) hS
end NPQ
set_option maxHeartbeats 1000000 in
theorem np_mkc2 {gA : Nat → Nat} {l : Launch} {D : va_G} {cl : List vw_C} {tys : List (ClassId × FieldType)} {y : MethodName} {cc : ByteArray} {nL mc ms : Nat} {AL : List Cond} {rm : Room} {avs : List Value} {ws0 : va_W} {Ex : State → Prop} {S : Type} {post : S → Prop} {wsf : S → va_W} (hy : plainName y.cls = true) (hlen : (lg_sl avs).length ≤ nL)
    (body : ∀ (p : Program) (e : Env) (R : Room) (s : State) (m : MethodId) (args : Array Value) (below : List Frame) (meth : Method) (c : Code) (Q : State → Prop) (A : Nat → Prop) (ls : Array Slot), np_Cx gA p R s m args c D cl tys A AL y.cls cc nL rm → meth.name = y.name → Ex s →
      (∀ (pc : Nat) (ls : Array Slot) (H : Heap) (locs : List Loc) (u : S), decode cc pc = .ok (.return_, 1) → post u → va_P D cl (wsf u) H → va_D A (wsf u) → va_S A s.heap H locs → W p l e R s m args below meth c H locs mc ms Q (F0 m pc ls [])) →
      va_P D cl ws0 s.heap → va_D A ws0 → va_S A s.heap s.heap [] → lv_has ls nL (lv_args 0 avs) → W p l e R s m args below meth c s.heap [] 0 0 Q (F0 m 0 ls [])) (sz : Nat) :
    Met l y (.code y cc nL none :: AL) rm (va_Pc avs (fun U => np_PreC gA D cl tys ws0 sz U ∧ Ex U)) (va_Qv post (np_BC D cl tys (va_A ws0 sz) wsf) (va_A ws0 sz)) mc ms (va_A ws0 sz) := by
  refine Met.ofW (cc := cc) (maxL := nL) (ret := none) hy rfl ?_
  intro p e s m args below meth c s₁ B hml hv
  obtain ⟨rfl, ⟨hsz, hP, hK, hD0, hE⟩, hex⟩ := hv
  subst hsz
  have hts := atoms_spec (ws := .code y cc nL none :: AL) B.pre
  have hown : s.vm.findClass y.cls = some m.cls := findClass_of_methodNamed B.named
  have hlocks := B.notSynchronized
  rw [lg_entry_eq]
  have hC : np_Cx gA p (headSpec (.code y cc nL none :: AL) rm).room s m avs.toArray c D cl tys (va_A ws0 s.heap.size) AL y.cls cc nL rm := ⟨⟨B.exec, B.bytes, hml, hown, fun w hw => hts w (List.mem_cons_of_mem _ hw)⟩, hK, fun a h => Or.inr h, rfl, hE, np_noSt hP⟩
  refine body p e _ s m _ below meth c _ (va_A ws0 s.heap.size) _ hC (name_of_methodNamed B.named B.method).1 hex (fun pc ls H locs u hdg hp hP1 hD1 hS1 => ?_) hP hD0.self va_S.rf (lv_entry avs hlen)
  exact W.vret hC.x hC.b B.returns (fun t ht hW => ⟨⟨u, rfl, hp, by rw [ht]; exact hP1, va_K.moved hW.alike hK, hD1⟩, hS1.F ht⟩) hS1.2.2 hdg hlocks
section NPS
variable {p : Program} {l : Launch} {e : Env} {R : Room} {s : State} {m : MethodId} {args : Array Value} {below : List Frame} {meth : Method} {c : Code} {H : Heap} {locs : List Loc} {cells slots : Nat} {Q : State → Prop}
variable {cc : ByteArray} {pc : Nat} {ls : Array Slot} {rest : List Value} {D : va_G} {cl : List vw_C} {tys : List (ClassId × FieldType)} {A : Nat → Prop} {Ts : List Cond} {own : String} {nL : Nat} {rm : Room} {wd : np_S → va_W} {σ : np_S} {gA : Nat → Nat}
theorem np_callC2 (C : np_Cx gA p R s m args c D cl tys A Ts own cc nL rm) {y : MethodName} {bytes : ByteArray} {maxL index nA mc ms a : Nat} {rmy : Room} {As st : List Value} {ws wr ws0 : va_W} {Ex : State → Prop} {S : Type} {post : S → Prop} {wsf : S → va_W} (hM : Met l y (.code y bytes maxL none :: Ts) rmy (va_Pc (.ref a :: As) (fun U => np_PreC gA D cl tys ws0 H.size U ∧ Ex U)) (va_Qv post (np_BC D cl tys (va_A ws0 H.size) wsf) (va_A ws0 H.size)) mc ms (va_A ws0 H.size)) (hex : ∀ U : State, s.WarmedH U.vm → Ex U) (hexb : ∀ (u U : State), U.vm = u.vm → Ex u → Ex U) (hall : np_good Ts) (w1 : .methodLink own index y ∈ Ts) (w2 : .instanceMethod y ∈ Ts) (w4 : .initialized y.cls ∈ Ts) (w5 : .code y bytes maxL none ∈ Ts) (hy1 : y.name = "<init>") (hd : y.cls ≠ "java/lang/invoke/MethodHandle" ∧ y.cls ≠ "java/lang/invoke/VarHandle" ∧ (parseMethodDescriptor y.desc).map (fun d => d.parameters.length) = some nA) (hnA : As.length = nA) (hR : rmy.cells = mc ∧ rmy.slots = ms ∧ rmy.frames + 1 ≤ rm.frames ∧ 8 + (maxL + 11) + rmy.locals ≤ rm.locals) (hws : ws = wr ++ ws0) (hP : va_P D cl ws H) (hD : va_D A ws) (hS : va_S A s.heap H locs) (hst : st = As.reverse ++ .ref a :: rest) (hls : ls.size = nL) (hcs : cells + mc ≤ rm.cells ∧ slots + ms ≤ rm.slots) (hrest : (rest.map fun v => v.category).sum ≤ 8) (hdg : decode cc pc = .ok (.invokespecial index, 3))
    (kk : ∀ (u : S) (H : Heap) (locs : List Loc), post u → va_P D cl (wr ++ wsf u) H → va_D A (wr ++ wsf u) → va_S A s.heap H locs → W p l e R s m args below meth c H locs (cells + mc) (slots + ms) Q (F0 m (pc + 3) ls rest)) : W p l e R s m args below meth c H locs cells slots Q (F0 m pc ls st) := by
  subst hws
  subst hst
  have hr := C.r
  subst hr
  have hP0 : va_P D cl ws0 H := fun k x hx => hP (wr.length + k) x (by rw [List.getElem?_append_right (Nat.le_add_right _ _), Nat.add_sub_cancel_left]; exact hx)
  have hD0 : va_D A ws0 := ⟨fun i j x y hx hy hxy => by
      have h1 := hD.1 (wr.length + i) (wr.length + j) x y (by rw [List.getElem?_append_right (Nat.le_add_right _ _), Nat.add_sub_cancel_left]; exact hx) (by rw [List.getElem?_append_right (Nat.le_add_right _ _), Nat.add_sub_cancel_left]; exact hy) hxy
      omega, fun k x hx => hD.2 (wr.length + k) x (by rw [List.getElem?_append_right (Nat.le_add_right _ _), Nat.add_sub_cancel_left]; exact hx)⟩
  have hFc : ∀ q, va_A ws0 H.size q → A q := by
    intro q h
    rcases h with ⟨k, e, h⟩ | h
    · exact hD0.2 k _ h
    · exact C.a q (Nat.le_trans hS.1 h)
  have hlw : ∀ (k : Nat) (x : Nat × va_E), wr[k]? = some x → (wr ++ ws0)[k]? = some x := fun k x hx => by
    rw [List.getElem?_append_left (List.getElem?_eq_some_iff.mp hx).1]; exact hx
  have hapart : ∀ (k : Nat) (x : Nat × va_E), wr[k]? = some x → ¬ va_A ws0 H.size x.1 := by
    intro k x hx h
    rcases h with ⟨k2, e, h⟩ | h
    · have h1 := hD.1 k (wr.length + k2) x (x.1, e) (hlw k x hx) (by rw [List.getElem?_append_right (Nat.le_add_right _ _), Nat.add_sub_cancel_left]; exact h) rfl
      have h2 := (List.getElem?_eq_some_iff.mp hx).1
      omega
    · have h1 := (hP k x (hlw k x hx)).lt
      omega
  have hG : ∀ w ∈ (.code y bytes maxL none :: Ts), w ∈ Ts := fun w hw => by
    rcases List.mem_cons.mp hw with rfl | hw
    · exact w5
    · exact hw
  have hbl : FrameBlind (va_Pc (.ref a :: As) (fun U => np_PreC gA D cl tys ws0 H.size U ∧ Ex U)) := by
    intro a2 U g mk q
    obtain ⟨q0, ⟨q1, qP, qK, qD, qE⟩, qX⟩ := q
    exact ⟨q0, ⟨q1, qP, va_K.moved (u := U) (U := U.calling g mk a2) (Vm.Alike.refl U.vm) qK, qD, np_E.same (u := U) rfl qE⟩, hexb U _ rfl qX⟩
  have hpre : ∀ U : State, U.heap = H → s.WarmedH U.vm → va_Pc (.ref a :: As) (fun U => np_PreC gA D cl tys ws0 H.size U ∧ Ex U) (Value.ref a :: As).toArray U := fun U hU hW => ⟨rfl, ⟨by rw [hU], by rw [hU]; exact hP0, va_K.moved hW.alike C.k, hD0.weaken (fun _ _ _ _ => trivial), by rw [hU]; exact ((C.en.kept hS.2.1).narrow hFc).warm hW⟩, hex U hW⟩
  refine va_callv (va_runI (As := As) (rest := rest) C.1 hM ⟨callB_of nA C.t (np_goodIn hall hG) rfl hR.1 hR.2.1 (C.t _ w4) (C.t _ w1) hd hR.2.2, hy1, C.t _ w2⟩ ⟨hbl, hpre⟩ rfl hnA hls rfl (lv_room hrest) hdg hcs) hS (fun q _ h => hFc q h) hFc (fun u t H1 locs ht hvm hw hB hz1 hk1 hS => ?_)
  obtain ⟨hP1, hK1, hD1⟩ := hB
  rw [ht] at hP1
  have hPr : va_P D cl wr H1 := fun k x hx => (hP k x (hlw k x hx)).kept (hk1 x.1 ((hP k x (hlw k x hx)).lt) (hapart k x hx))
  have hDr : va_D A wr := ⟨fun i j x y hx hy hxy => hD.1 i j x y (hlw i x hx) (hlw j y hy) hxy, fun k x hx => hD.2 k x (hlw k x hx)⟩
  exact kk u H1 locs hw (hPr.app hP1) (va_D.app hDr (hD1.weaken (fun _ _ _ h => hFc _ h)) (fun i j x y hx hy hxy => hapart i x hx (by rw [hxy]; exact hD1.2 j y hy))) hS
end NPS
