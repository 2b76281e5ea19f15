def R_law : String := "NotationParseLaw"
def lw_P (b : Addr) (xs : List Int32) (args : Array Value) (s : State) : Prop := args = #[.ref b] ∧ s.IntsAt b xs ∧ xs.length ≤ 2048 ∧ (Jvm.Cond.and given_1 narrow_1).before args s = true
def lw_Q (_ : Array Value) (s : State) (o : Outcome) (t : State) : Prop := o = .returned (some (.int 1)) ∧ Framed s o t [] 601024 7293034
def lw_Z (below : List Frame) (a : Array Value) (s : State) : State → Prop := fun t => ∃ o, t.status = .running ∧ Ended t below o ∧ lw_Q a s o t
/-- the law's own end, with 1 on the stack, nothing written that was there before, its room as the claim has it -/
theorem lw_ret {p : Program} {l : Launch} {e : Env} {s : State} {m : MethodId} {below : List Frame} {meth : Method} {c : Code} {b : Nat} (hx : p.tables.exec = Jvm.exec) (hb : c.code = code) (hr : meth.sig.returnType = ret) (hlocks : meth.locks = false) {pc : Nat} {H : Heap} {ls : Array Slot} (hdg : decode code pc = .ok (.ireturn, 1)) : W p l e room_1 s m #[Value.ref b] below meth c H [] 601024 7293034 (lw_Z below #[Value.ref b] s) (F0 m pc ls [.int 1]) := by
  intro T hT X
  obtain ⟨fs, hret, hrun, hended, hW, hframe⟩ := X.leave (v := some (.int 1)) (hlocks := hlocks) (fun h => by rw [hr] at h; cases h)
  have hmeth' : T.vm.method? m = some meth := X.method'
  refine ⟨T.setFrames fs, ?_, .returned (some (.int 1)), hrun, hended, rfl, ⟨_, rfl⟩, hW, hframe⟩
  jvm_step X.here [X.here.top, hx, hb, hdg, hmeth', hr, ret, narrow_b1]
  (try refine ⟨rfl, ?_⟩); (try refine ⟨rfl, ?_⟩)
  first | (intro acts; rw [hret _ acts rfl rfl rfl]) | rw [hret _ _ rfl rfl rfl]
  exact Steps.refl _
/-- what holds at the law's entry: the machine, the code, the tables' words (any of lw_tbl by 'hts w (by decide +kernel)'), the script of L ints xs at the cell b, what the Statement gives of the start (any of its parts by flat_of_before) -/
def lw_At (p : Program) (s : State) (m : MethodId) (meth : Method) (c : Code) (b L : Nat) (xs : Nat → Int32) : Prop :=
  p.tables.exec = Jvm.exec ∧ c.code = code ∧ meth.sig.returnType = ret ∧ c.maxLocals = 7 ∧ s.vm.findClass R_law = some m.cls ∧ (∀ w ∈ lw_tbl, w.before #[Value.ref b] s = true) ∧ va_X b L xs s s.heap ∧ b < s.heap.size ∧ meth.locks = false ∧ (Jvm.Cond.and given_1 narrow_1).before #[Value.ref b] s = true
theorem ns_nest {s : State} {b : Nat} (hts : ∀ w ∈ lw_tbl, w.before #[Value.ref b] s = true) {U : State} (hW : s.WarmedH U.vm) : va_Nw (.methodLinkNest "NotationParse" 18 ⟨"NotationParse$Text", "<init>", "()V"⟩ "NotationParse") U ∧ va_Nw (.methodLinkNest "NotationParse" 43 ⟨"NotationParse$Output", "<init>", "()V"⟩ "NotationParse") U := by
  have h1 := hts (.methodLinkNest "NotationParse" 18 ⟨"NotationParse$Text", "<init>", "()V"⟩ "NotationParse") (by decide +kernel)
  have h2 := hts (.methodLinkNest "NotationParse" 43 ⟨"NotationParse$Output", "<init>", "()V"⟩ "NotationParse") (by decide +kernel)
  exact ⟨va_Nw.warmM hW (va_Nw.of rfl h1), va_Nw.warmM hW (va_Nw.of rfl h2)⟩
theorem ns_nestb {u U : State} (hU : U.vm = u.vm) (h : va_Nw (.methodLinkNest "NotationParse" 18 ⟨"NotationParse$Text", "<init>", "()V"⟩ "NotationParse") u ∧ va_Nw (.methodLinkNest "NotationParse" 43 ⟨"NotationParse$Output", "<init>", "()V"⟩ "NotationParse") u) : va_Nw (.methodLinkNest "NotationParse" 18 ⟨"NotationParse$Text", "<init>", "()V"⟩ "NotationParse") U ∧ va_Nw (.methodLinkNest "NotationParse" 43 ⟨"NotationParse$Output", "<init>", "()V"⟩ "NotationParse") U := ⟨va_Nw.same rfl hU.symm h.1, va_Nw.same rfl hU.symm h.2⟩
set_option maxHeartbeats 4000000 in
set_option maxRecDepth 100000 in
theorem ns_start {p : Program} {e : Env} {s : State} {m : MethodId} {below : List Frame} {meth : Method} {c : Code} (l : Launch) (htr : l.stackTraces = false) {b L : Nat} {xs : Nat → Int32} {oG : np_O} (hG : f_Gib (np_st (fun _ _ => 0) 0 4 2) = some oG) {σE : np_S} (hF : f_law_23 xs L 600 0 (ns_sg oG) = some (1, σE)) (hL : L ≤ 2048) (C0 : lw_At p s m meth c b L xs) : W p l e room_1 s m #[Value.ref b] below meth c s.heap [] 0 0 (lw_Z below #[Value.ref b] s) (entryFrame m ([Value.ref b] : List Value).toArray 7) := by
  obtain ⟨hx, hb, hr, hml, hown, hts, hX, hbl, hlocks, hgv⟩ := id C0
  obtain ⟨gA, hE⟩ := ns_E hts hgv
  have hbA : ¬ (fun q : Nat => s.heap.size ≤ q) b := Nat.not_le.mpr hbl
  have hta : ∀ w ∈ np_al, w.before #[Value.ref b] s = true := fun w hw => hts w (List.mem_filter.mp hw).1
  obtain ⟨c0, iS0, hKn0⟩ := u_known (C := "NotationParse") (T := F_N) (N := 7) (n := 7) hta i_N (hta _ tw_28)
  obtain ⟨c1, iS1, hKn1⟩ := u_known (C := "NotationParse$Grammar") (T := F_Grammar) (N := 6) (n := 6) hta i_Grammar (hta _ tw_36)
  obtain ⟨c2, iS2, hKn2⟩ := u_known (C := "NotationParse$Text") (T := F_Text) (N := 7) (n := 7) hta i_Text (hta _ tw_80)
  obtain ⟨c3, iS3, hKn3⟩ := u_known (C := "NotationParse$Chart") (T := F_Chart) (N := 4) (n := 4) hta i_Chart (hta _ tw_116)
  obtain ⟨c4, iS4, hKn4⟩ := u_known (C := "NotationParse$Tree") (T := F_Tree) (N := 14) (n := 14) hta i_Tree (hta _ tw_135)
  obtain ⟨c5, iS5, hKn5⟩ := u_known (C := "NotationParse$Output") (T := F_Output) (N := 2) (n := 2) hta i_Output (hta _ tw_190)
  obtain ⟨c6, iS6, hKn6⟩ := u_known (C := "NotationParseModel") (T := F_M) (N := 31) (n := 31) hta i_M (hta _ tw_917)
  obtain ⟨a0, hAr0⟩ := ns_arr (hta _ tw_77) (fun _ h => h) (fun _ h => by cases h)
  obtain ⟨a1, hAr1⟩ := ns_arr (hta _ tw_78) (fun _ h => h) (fun _ h => by cases h)
  obtain ⟨a2, hAr2⟩ := ns_arr (hta _ tw_114) (fun _ h => h) (fun _ h => by cases h)
  obtain ⟨a3, hAr3⟩ := ns_arr (hta _ tw_1017) (fun _ h => h) (fun _ h => by cases h)
  obtain ⟨D, hKc⟩ : ∃ D : va_G, ∀ (k : Nat) (q : vw_C), np_cl[k]? = some q → u_Kn s q.1 q.2.1 q.2.2 (D.1 k) (D.2 k) := by
    refine ⟨(fun k => if k = 0 then c0 else if k = 1 then c1 else if k = 2 then c2 else if k = 3 then c3 else if k = 4 then c4 else if k = 5 then c5 else c6, fun k => if k = 0 then iS0 else if k = 1 then iS1 else if k = 2 then iS2 else if k = 3 then iS3 else if k = 4 then iS4 else if k = 5 then iS5 else iS6), ?_⟩
    intro k q hq
    match k, hq with
    | 0, hq => cases hq; exact hKn0
    | 1, hq => cases hq; exact hKn1
    | 2, hq => cases hq; exact hKn2
    | 3, hq => cases hq; exact hKn3
    | 4, hq => cases hq; exact hKn4
    | 5, hq => cases hq; exact hKn5
    | 6, hq => cases hq; exact hKn6
    | k + 7, hq => simp [np_cl] at hq
  obtain ⟨cA, hT⟩ : ∃ cA : Nat → ClassId, ∀ (k : Nat) (q : ClassId × FieldType), (np_ty cA)[k]? = some q → ArrOfT s q.1 q.2 ∧ va_RA s q.1 q.2 := by
    refine ⟨fun k => if k = 0 then a0 else if k = 1 then a1 else if k = 2 then a2 else a3, ?_⟩
    intro k q hq
    match k, hq with
    | 0, hq => cases hq; exact hAr0
    | 1, hq => cases hq; exact hAr1
    | 2, hq => cases hq; exact hAr2
    | 3, hq => cases hq; exact hAr3
    | k + 4, hq => simp [np_ty] at hq
  have C : np_Cx gA p room_1 s m #[Value.ref b] c D np_cl (np_ty cA) (fun q : Nat => s.heap.size ≤ q) np_al "NotationParseLaw" code 7 room_1 := ⟨⟨hx, hb, hml, hown, hta⟩, ⟨hKc, hT⟩, fun _ h => h, rfl, hE, fun a cell ha hc => absurd (Array.getElem?_eq_some_iff.mp hc).1 (Nat.not_lt.mpr ha)⟩
  have hS : va_S (fun q : Nat => s.heap.size ≤ q) s.heap s.heap [] := va_S.rf
  have hP : va_P D np_cl [] s.heap := fun k q h => by simp at h
  have hD : va_D (fun q : Nat => s.heap.size ≤ q) [] := ⟨fun i j p q h => by simp at h, fun k q h => by simp at h⟩
  have hl := lv_entry ([.ref b]) (n := 7) (Nat.le_of_ble_eq_true rfl)
  rw [lg_entry_eq]
  generalize (lg_sl ([.ref b]) ++ List.replicate (7 - (lg_sl ([.ref b])).length) Slot.unset).toArray = ls at hl ⊢
  have hl : lv_has ls 7 [(0, .ref b)] := hl
  refine np_newo (fs := [.null, .null, .null, .null, .null, .int (np_i 0), .int (np_i 0)]) (ci := 0) C i_N t_N tok_N tw_27 tw_28 tw_1 hP hD hS rfl (by decide +kernel) (Nat.le_of_ble_eq_true rfl) (Nat.le_of_ble_eq_true rfl) dd_L_law_0 (fun n H hP hD hS => ?_)
  have hP : va_P D np_cl [(n, .inr (0, [.null, .null, .null, .null, .null, .int (np_i 0), .int (np_i 0)]))] H := hP
  have hD : va_D (fun q : Nat => s.heap.size ≤ q) [(n, .inr (0, [.null, .null, .null, .null, .null, .int (np_i 0), .int (np_i 0)]))] := hD
  refine lv_dup C.x C.b dd_L_law_3 rfl ?_
  refine np_callC2 (Ex := fun U => va_Nw (.methodLinkNest "NotationParse" 18 ⟨"NotationParse$Text", "<init>", "()V"⟩ "NotationParse") U ∧ va_Nw (.methodLinkNest "NotationParse" 43 ⟨"NotationParse$Output", "<init>", "()V"⟩ "NotationParse") U) (As := []) (rest := [.ref n]) (wr := []) C (c_N_init l hG n H.size) (fun U hW => ns_nest hts hW) (fun u U hU h => ns_nestb hU h) np_allgood tw_29 tw_30 tw_1 tw_31 rfl (nA := 0) (by decide +kernel) rfl ⟨rfl, rfl, Nat.le_of_ble_eq_true rfl, Nat.le_of_ble_eq_true rfl⟩ rfl hP hD hS rfl hl.1 ⟨Nat.le_of_ble_eq_true rfl, Nat.le_of_ble_eq_true rfl⟩ (Nat.le_of_ble_eq_true rfl) dd_L_law_4 (fun w H locs hw hP1 hD1 hS => ?_)
  obtain ⟨h0, u1, u2, u3, u4, u5⟩ := w
  have hw : h0 = n := hw
  subst hw
  have hP : va_P D np_cl (nw_N cA oG (h0, u1, u2, u3, u4, u5)) H := hP1
  have hD : va_D (fun q : Nat => s.heap.size ≤ q) (nw_N cA oG (h0, u1, u2, u3, u4, u5)) := hD1
  refine lv_astore_n (lv' := [(1, .ref h0), (0, .ref b)]) C.x C.b dd_L_law_7 rfl hl (by decide) rfl (fun ls hl => ?_)
  refine np_newo (fs := [.int (np_i 0), .int (np_i 0), .int (np_i 0), .null, .null, .null, .null, .null, .int (np_i 0), .int (np_i 0), .int (np_i 0), .int (np_i 0), .null, .null, .null, .null, .null, .null, .int (np_i 0), .null, .null, .null, .null, .null, .null, .null, .null, .int (np_i 0), .int (np_i 0), .null, .null]) (ci := 6) C i_M t_M tok_M tw_916 tw_917 tw_8 hP hD hS rfl (by decide +kernel) (Nat.le_of_ble_eq_true rfl) (Nat.le_of_ble_eq_true rfl) dd_L_law_8 (fun k H hP hD hS => ?_)
  refine lv_dup C.x C.b dd_L_law_11 rfl ?_
  refine np_callC (As := []) (rest := [.ref k]) (wr := nw_N cA oG (h0, u1, u2, u3, u4, u5)) C (c_M_init l k H.size) np_allgood tw_918 tw_919 tw_8 tw_920 rfl (nA := 0) (by decide +kernel) rfl ⟨rfl, rfl, Nat.le_of_ble_eq_true rfl, Nat.le_of_ble_eq_true rfl⟩ rfl hP hD hS rfl hl.1 ⟨Nat.le_of_ble_eq_true rfl, Nat.le_of_ble_eq_true rfl⟩ (Nat.le_of_ble_eq_true rfl) dd_L_law_12 (fun u H locs hw hP1 hD1 hS => ?_)
  have hw : u 0 = k := hw
  subst hw
  refine lv_astore_n (lv' := [(2, .ref (u 0)), (1, .ref h0), (0, .ref b)]) C.x C.b dd_L_law_15 rfl hl (by decide) rfl (fun ls hl => ?_)
  refine lv_iconst (v := np_i 1) C.x C.b dd_L_law_16 rfl ?_
  refine np_newa (n := 1) (N := 1) (a0 := (1, .inr (.inl (fun _ => np_l 0)))) C tw_78 rfl 1 rfl (fun c1 c2 h1 h2 => Option.some.inj (h1.symm.trans h2)) hP1 hD1 hS (fun _ => rfl) rfl (by decide) (by decide) (Nat.le_of_ble_eq_true rfl) (Nat.le_of_ble_eq_true rfl) dd_L_law_17 (fun x H hP2 hD2 hS => ?_)
  refine lv_astore_n (lv' := [(3, .ref x), (2, .ref (u 0)), (1, .ref h0), (0, .ref b)]) C.x C.b dd_L_law_19 rfl hl (by decide) rfl (fun ls hl => ?_)
  refine lv_iconst (v := np_i 0) C.x C.b dd_L_law_20 rfl ?_
  refine lv_istore (lv' := [(4, .int (np_i 0)), (3, .ref x), (2, .ref (u 0)), (1, .ref h0), (0, .ref b)]) C.x C.b dd_L_law_21 hl (by decide) rfl (fun ls hl => ?_)
  obtain ⟨Q, hQe⟩ : ∃ Q : Nat → Nat, Q = fun k => [h0, u1 0, u1 1, u1 2, u1 3, u1 4, u2 0, u2 1, u2 2, u2 3, u2 4, u3 0, u3 1, u3 2, u3 3, u4 0, u4 1, u4 2, u4 3, u4 4, u4 5, u4 6, u4 7, u4 8, u4 9, u4 10, u5 0, u5 1, x, u 0, u 1, u 2, u 3, u 4, u 5, u 6, u 7, u 8, u 9, u 10, u 11, u 12, u 13, u 14, u 15, u 16, u 17, u 18, u 19, u 20, u 21].getD k 0 := ⟨_, rfl⟩
  have hP3 : va_P D np_cl (nc_wd Q cA (ns_sg oG)) H := hP2.sub [0, 1, 2, 3, 4, 5, 6, 7, 8, 9, 10, 11, 12, 13, 14, 15, 16, 17, 18, 19, 20, 21, 22, 23, 24, 25, 26, 27, 50, 28, 29, 30, 31, 32, 33, 34, 35, 36, 37, 38, 39, 40, 41, 42, 43, 44, 45, 46, 47, 48, 49] (by subst hQe; rfl)
  have hD3 : va_D (fun q : Nat => s.heap.size ≤ q) (nc_wd Q cA (ns_sg oG)) := hD2.sub [0, 1, 2, 3, 4, 5, 6, 7, 8, 9, 10, 11, 12, 13, 14, 15, 16, 17, 18, 19, 20, 21, 22, 23, 24, 25, 26, 27, 50, 28, 29, 30, 31, 32, 33, 34, 35, 36, 37, 38, 39, 40, 41, 42, 43, 44, 45, 46, 47, 48, 49] (by decide) (by subst hQe; rfl)
  have hl3 : lv_has ls 7 [(0, .ref b), (1, .ref (Q 0)), (2, .ref (Q 29)), (3, .ref (Q 28)), (4, .int (np_i 0))] := by subst hQe; exact lv_sub hl [4, 3, 2, 1, 0] rfl
  clear hP2 hD2 hP1 hD1 hl hQe
  refine w_f_law_23 (out := (1, σE)) C htr (fun pc ls H locs cells slots v σ hdg ho hcs hat => ?_) hX hbl hbA (by omega) 600 0 (ns_sg oG) H locs ls _ _ hF ⟨Nat.le_of_ble_eq_true rfl, Nat.le_of_ble_eq_true rfl⟩ ⟨hP3, hD3, hS⟩ hl3
  have ho := Option.some.inj ho
  have hv : v = 1 := congrArg Prod.fst ho
  subst hv
  refine va_forget (fun q hq => hat.2.2.2.2 q hq) ?_
  refine W.widen (k := 601024) (n := 7293034) hcs.1 hcs.2 ?_
  exact lw_ret hx hb hr hlocks hdg
