section NWX
variable {p : Program} {l : Launch} {e : Env} {R : Room} {s : State} {m : MethodId} {args : Array Value} {below : List Frame} {meth : Method} {c : Code} {Q : State → Prop} {D : va_G} {A : Nat → Prop} {q : Nat → Nat} {cA : Nat → ClassId} {out : np_X} {gA : Nat → Nat}
set_option maxHeartbeats 4000000 in
set_option maxRecDepth 100000 in
theorem w_f_N_hole_10 (C : np_Cx gA p R s m args c D np_cl (np_ty cA) A np_al "NotationParse" prog_1_method_2_code 2 { frames := 6, cells := 1, slots := 6, locals := 82 }) (hQ : ∀ (pc : Nat) (ls : Array Slot) (H : Heap) (locs : List Loc) (v : Int) {σ : np_S}, decode prog_1_method_2_code pc = .ok (.ireturn, 1) → some ((0 : Nat), v, σ) = some out → np_At D np_cl A (nc_wd q cA) s σ H locs → W p l e R s m args below meth c H locs 0 0 Q (F0 m pc ls [.int (np_i v)])) (hno : c.exceptionTable.isEmpty = true) (hlocks : meth.locks = false) (htr : l.stackTraces = false) (hT : ∀ (k : Nat) (Xn : String) {σ2 : np_S} {locs : List Loc}, np_xn (k + 1) = Xn → some (k + 1, (0 : Int), σ2) = some out → ∀ (U : State) (a : Nat) (ce : Cell), U.status = .running → Ended U below (.threw a) → s.WarmedH U.vm → s.sameButNew ({ U with vm := s.vm } : State) locs (0 + 1) (0 + 6) → np_At D np_cl A (nc_wd q cA) s σ2 U.heap locs → U.heap[a]? = some ce → s.vm.findClass Xn = some ce.cls → ce.vm = .none → Q U)   : ∀ (σ : np_S) (H : Heap) (locs : List Loc) (ls : Array Slot), f_N_hole_10  σ = some out → np_At D np_cl A (nc_wd q cA) s σ H locs → lv_has ls 2 [] → W p l e R s m args below meth c H locs 0 0 Q (F0 m 10 ls []) := by
  intro σ H locs ls hf hat hl
  unfold f_N_hole_10 at hf
  exact np_throw C np_allgood htr hat (Xn := "java/lang/IllegalArgumentException") (tx := "a hole's level is 0 to 10") (up := ["java/lang/RuntimeException", "java/lang/Exception"]) (i0 := 55) (i1 := 57) (i2 := 59) (qa := gA (200 + 57)) (by decide +kernel) (by decide +kernel) at_IAE1 at_IAE2 tw_372 tw_12 tw_373 (C.en.2.2.2.2.2.2.1 (57, "a hole's level is 0 to 10") (by decide +kernel)) dd_N_hole_10 dd_N_hole_13 dd_N_hole_14 dd_N_hole_16 dd_N_hole_19 hl.1 hno ⟨Nat.le_of_ble_eq_true rfl, Nat.le_of_ble_eq_true rfl, Nat.le_of_ble_eq_true rfl, Nat.le_of_ble_eq_true rfl⟩ hlocks (hT 0 _ rfl hf)
set_option maxHeartbeats 4000000 in
set_option maxRecDepth 100000 in
theorem w_f_N_hole (C : np_Cx gA p R s m args c D np_cl (np_ty cA) A np_al "NotationParse" prog_1_method_2_code 2 { frames := 6, cells := 1, slots := 6, locals := 82 }) (hQ : ∀ (pc : Nat) (ls : Array Slot) (H : Heap) (locs : List Loc) (v : Int) {σ : np_S}, decode prog_1_method_2_code pc = .ok (.ireturn, 1) → some ((0 : Nat), v, σ) = some out → np_At D np_cl A (nc_wd q cA) s σ H locs → W p l e R s m args below meth c H locs 0 0 Q (F0 m pc ls [.int (np_i v)])) (hno : c.exceptionTable.isEmpty = true) (hlocks : meth.locks = false) (htr : l.stackTraces = false) (hT : ∀ (k : Nat) (Xn : String) {σ2 : np_S} {locs : List Loc}, np_xn (k + 1) = Xn → some (k + 1, (0 : Int), σ2) = some out → ∀ (U : State) (a : Nat) (ce : Cell), U.status = .running → Ended U below (.threw a) → s.WarmedH U.vm → s.sameButNew ({ U with vm := s.vm } : State) locs (0 + 1) (0 + 6) → np_At D np_cl A (nc_wd q cA) s σ2 U.heap locs → U.heap[a]? = some ce → s.vm.findClass Xn = some ce.cls → ce.vm = .none → Q U)   : ∀ (x1 : Int) (σ : np_S) (H : Heap) (locs : List Loc) (ls : Array Slot), f_N_hole  x1 σ = some out → np_At D np_cl A (nc_wd q cA) s σ H locs → lv_has ls 2 [(0, .ref (q 0)), (1, .int (np_i x1))] → W p l e R s m args below meth c H locs 0 0 Q (F0 m 0 ls []) := by
  intro x1 σ H locs ls hf hat hl
  unfold f_N_hole at hf
  refine lv_iload_n C.x C.b dd_N_hole_0 rfl (lv_at hl 1 rfl) ?_
  refine np_if_lt (tgt := 10) C dd_N_hole_1 (by decide) hf (fun _ hf => ?_) (fun _ hf => ?_)
  · exact w_f_N_hole_10 C hQ hno hlocks htr hT   _ _ _ _ hf hat (lv_sub hl [] rfl)
  · refine lv_iload_n C.x C.b dd_N_hole_4 rfl (lv_at hl 1 rfl) ?_
    refine lv_bipush (v := np_i 10) C.x C.b dd_N_hole_5 (by decide +kernel) ?_
    refine np_icmp_le (tgt := 20) C dd_N_hole_7 (by decide) hf (fun _ hf => ?_) (fun _ hf => ?_)
    · refine lv_aload_n C.x C.b dd_N_hole_20 rfl (lv_at hl 0 rfl) ?_
      refine np_get (v := .ref (q 1)) C i_N hat.1 0 (nc_o0 _) rfl 0 (by decide) tw_204 rfl rfl dd_N_hole_21 ?_
      refine np_callVi (As := []) (rest := []) C (c_Grammar_handEndsInHole l _) np_allgood tw_439 tw_440 tw_441 tw_2 tw_442 (nA := 0) (by decide +kernel) rfl ⟨rfl, rfl, Nat.le_of_ble_eq_true rfl, Nat.le_of_ble_eq_true rfl⟩ (va_recv C.k hat.1 (ci := 1) (q0 := 1) rfl (nc_o1 _)) hat rfl hl.1 (Nat.le_of_ble_eq_true rfl) dd_N_hole_24 hf (fun o1 H locs hf hat => ?_)
      refine np_if_eq (tgt := 40) C dd_N_hole_27 (by decide) hf (fun _ hf => ?_) (fun _ hf => ?_)
      · refine lv_aload_n C.x C.b dd_N_hole_40 rfl (lv_at hl 0 rfl) ?_
        refine np_get (v := .ref (q 1)) C i_N hat.1 0 (nc_o0 _) rfl 0 (by decide) tw_204 rfl rfl dd_N_hole_41 ?_
        refine np_get (v := .int (np_i (o1.2 1 5))) C i_Grammar hat.1 1 (nc_o1 _) rfl 5 (by decide) tw_63 rfl rfl dd_N_hole_44 ?_
        refine lv_bipush (v := np_i 6) C.x C.b dd_N_hole_47 (by decide +kernel) ?_
        refine np_icmp_lt (tgt := 62) C dd_N_hole_49 (by decide) hf (fun _ hf => ?_) (fun _ hf => ?_)
        · refine lv_aload_n C.x C.b dd_N_hole_62 rfl (lv_at hl 0 rfl) ?_
          refine np_get (v := .ref (q 1)) C i_N hat.1 0 (nc_o0 _) rfl 0 (by decide) tw_204 rfl rfl dd_N_hole_63 ?_
          refine lv_iload_n C.x C.b dd_N_hole_66 rfl (lv_at hl 1 rfl) ?_
          refine np_ldc2 (v := (-1)) C tw_460 dd_N_hole_67 ?_
          refine np_callVi (As := [.int (np_i x1), .long (np_l ((-1)))]) (rest := []) C (c_Grammar_takePart l x1 ((-1)) _) np_allgood tw_461 tw_462 tw_463 tw_2 tw_464 (nA := 2) (by decide +kernel) rfl ⟨rfl, rfl, Nat.le_of_ble_eq_true rfl, Nat.le_of_ble_eq_true rfl⟩ (va_recv C.k hat.1 (ci := 1) (q0 := 1) rfl (nc_o1 _)) hat rfl hl.1 (Nat.le_of_ble_eq_true rfl) dd_N_hole_70 hf (fun o2 H locs hf hat => ?_)
          exact hQ _ _ _ _ _ dd_N_hole_73 hf hat
        · exact np_throw C np_allgood htr hat (Xn := "java/lang/IllegalStateException") (tx := "there are 6 parts in hand") (up := ["java/lang/RuntimeException", "java/lang/Exception"]) (i0 := 71) (i1 := 73) (i2 := 75) (qa := gA (200 + 73)) (by decide +kernel) (by decide +kernel) at_ISE1 at_ISE2 tw_444 tw_13 tw_445 (C.en.2.2.2.2.2.2.1 (73, "there are 6 parts in hand") (by decide +kernel)) dd_N_hole_52 dd_N_hole_55 dd_N_hole_56 dd_N_hole_58 dd_N_hole_61 hl.1 hno ⟨Nat.le_of_ble_eq_true rfl, Nat.le_of_ble_eq_true rfl, Nat.le_of_ble_eq_true rfl, Nat.le_of_ble_eq_true rfl⟩ hlocks (hT 1 _ rfl hf)
      · exact np_throw C np_allgood htr hat (Xn := "java/lang/IllegalArgumentException") (tx := "a hole stands just ahead") (up := ["java/lang/RuntimeException", "java/lang/Exception"]) (i0 := 55) (i1 := 66) (i2 := 59) (qa := gA (200 + 66)) (by decide +kernel) (by decide +kernel) at_IAE1 at_IAE2 tw_372 tw_12 tw_373 (C.en.2.2.2.2.2.2.1 (66, "a hole stands just ahead") (by decide +kernel)) dd_N_hole_30 dd_N_hole_33 dd_N_hole_34 dd_N_hole_36 dd_N_hole_39 hl.1 hno ⟨Nat.le_of_ble_eq_true rfl, Nat.le_of_ble_eq_true rfl, Nat.le_of_ble_eq_true rfl, Nat.le_of_ble_eq_true rfl⟩ hlocks (hT 0 _ rfl hf)
    · exact w_f_N_hole_10 C hQ hno hlocks htr hT   _ _ _ _ hf hat (lv_sub hl [] rfl)
set_option maxHeartbeats 4000000 in
set_option maxRecDepth 100000 in
theorem c_N_hole (l : Launch) (htr : l.stackTraces = false) {gA : Nat → Nat} {D : va_G} {q : Nat → Nat} {cA : Nat → ClassId} (x1 : Int) (σ : np_S) : np_Mx gA l D np_cl (np_ty cA) (nc_wd q cA) yy_N_hole (.code yy_N_hole prog_1_method_2_code 2 (some .int) :: np_al) { frames := 6, cells := 1, slots := 6, locals := 82 } [.ref (q 0), .int (np_i x1)] σ (f_N_hole x1 σ) :=
  np_mkx (by decide +kernel) (Nat.le_of_ble_eq_true rfl) (fun o p e R s m args below meth c Q A ls hf C hno hlocks hQ hT hat hl => w_f_N_hole C hQ hno hlocks htr hT x1 σ _ _ _ hf hat (lv_sub hl [0, 1] rfl))
set_option maxHeartbeats 4000000 in
set_option maxRecDepth 100000 in
theorem w_f_N_word_43 (C : np_Cx gA p R s m args c D np_cl (np_ty cA) A np_al "NotationParse" prog_1_method_3_code 6 { frames := 6, cells := 1, slots := 6, locals := 135 }) (hQ : ∀ (pc : Nat) (ls : Array Slot) (H : Heap) (locs : List Loc) (v : Int) {σ : np_S}, decode prog_1_method_3_code pc = .ok (.ireturn, 1) → some ((0 : Nat), v, σ) = some out → np_At D np_cl A (nc_wd q cA) s σ H locs → W p l e R s m args below meth c H locs 0 0 Q (F0 m pc ls [.int (np_i v)])) (hno : c.exceptionTable.isEmpty = true) (hlocks : meth.locks = false) (htr : l.stackTraces = false) (hT : ∀ (k : Nat) (Xn : String) {σ2 : np_S} {locs : List Loc}, np_xn (k + 1) = Xn → some (k + 1, (0 : Int), σ2) = some out → ∀ (U : State) (a : Nat) (ce : Cell), U.status = .running → Ended U below (.threw a) → s.WarmedH U.vm → s.sameButNew ({ U with vm := s.vm } : State) locs (0 + 1) (0 + 6) → np_At D np_cl A (nc_wd q cA) s σ2 U.heap locs → U.heap[a]? = some ce → s.vm.findClass Xn = some ce.cls → ce.vm = .none → Q U)   : ∀ (σ : np_S) (H : Heap) (locs : List Loc) (ls : Array Slot), f_N_word_43  σ = some out → np_At D np_cl A (nc_wd q cA) s σ H locs → lv_has ls 6 [] → W p l e R s m args below meth c H locs 0 0 Q (F0 m 43 ls []) := by
  intro σ H locs ls hf hat hl
  unfold f_N_word_43 at hf
  exact np_throw C np_allgood htr hat (Xn := "java/lang/IllegalArgumentException") (tx := "( and ) are no words of notations") (up := ["java/lang/RuntimeException", "java/lang/Exception"]) (i0 := 55) (i1 := 98) (i2 := 59) (qa := gA (200 + 98)) (by decide +kernel) (by decide +kernel) at_IAE1 at_IAE2 tw_372 tw_12 tw_373 (C.en.2.2.2.2.2.2.1 (98, "( and ) are no words of notations") (by decide +kernel)) dd_N_word_43 dd_N_word_46 dd_N_word_47 dd_N_word_49 dd_N_word_52 hl.1 hno ⟨Nat.le_of_ble_eq_true rfl, Nat.le_of_ble_eq_true rfl, Nat.le_of_ble_eq_true rfl, Nat.le_of_ble_eq_true rfl⟩ hlocks (hT 0 _ rfl hf)
set_option maxHeartbeats 4000000 in
set_option maxRecDepth 100000 in
theorem w_f_N_word (C : np_Cx gA p R s m args c D np_cl (np_ty cA) A np_al "NotationParse" prog_1_method_3_code 6 { frames := 6, cells := 1, slots := 6, locals := 135 }) (hQ : ∀ (pc : Nat) (ls : Array Slot) (H : Heap) (locs : List Loc) (v : Int) {σ : np_S}, decode prog_1_method_3_code pc = .ok (.ireturn, 1) → some ((0 : Nat), v, σ) = some out → np_At D np_cl A (nc_wd q cA) s σ H locs → W p l e R s m args below meth c H locs 0 0 Q (F0 m pc ls [.int (np_i v)])) (hno : c.exceptionTable.isEmpty = true) (hlocks : meth.locks = false) (htr : l.stackTraces = false) (hT : ∀ (k : Nat) (Xn : String) {σ2 : np_S} {locs : List Loc}, np_xn (k + 1) = Xn → some (k + 1, (0 : Int), σ2) = some out → ∀ (U : State) (a : Nat) (ce : Cell), U.status = .running → Ended U below (.threw a) → s.WarmedH U.vm → s.sameButNew ({ U with vm := s.vm } : State) locs (0 + 1) (0 + 6) → np_At D np_cl A (nc_wd q cA) s σ2 U.heap locs → U.heap[a]? = some ce → s.vm.findClass Xn = some ce.cls → ce.vm = .none → Q U)   : ∀ (x1 x3 : Int) (σ : np_S) (H : Heap) (locs : List Loc) (ls : Array Slot), f_N_word  x1 x3 σ = some out → np_At D np_cl A (nc_wd q cA) s σ H locs → lv_has ls 6 [(0, .ref (q 0)), (1, .long (np_l x1)), (3, .int (np_i x3))] → W p l e R s m args below meth c H locs 0 0 Q (F0 m 0 ls []) := by
  intro x1 x3 σ H locs ls hf hat hl
  unfold f_N_word at hf
  refine lv_lload_n C.x C.b dd_N_word_0 rfl (lv_at hl 1 rfl) ?_
  refine lv_iload_n C.x C.b dd_N_word_1 rfl (lv_at hl 2 rfl) ?_
  refine np_callSi (As := [.long (np_l x1), .int (np_i x3)]) (rest := []) C (c_Spelling_isSpelled l x1 x3 _) np_allgood tw_253 tw_254 tw_14 tw_255 (nA := 2) (by decide +kernel) rfl ⟨rfl, rfl, Nat.le_of_ble_eq_true rfl, Nat.le_of_ble_eq_true rfl⟩ hat rfl hl.1 (Nat.le_of_ble_eq_true rfl) dd_N_word_2 hf (fun o1 H locs hf hat => ?_)
  refine np_if_ne (tgt := 18) C dd_N_word_5 (by decide) hf (fun _ hf => ?_) (fun _ hf => ?_)
  · refine lv_lload_n C.x C.b dd_N_word_18 rfl (lv_at hl 1 rfl) ?_
    refine lv_iload_n C.x C.b dd_N_word_19 rfl (lv_at hl 2 rfl) ?_
    refine np_callSl (As := [.long (np_l x1), .int (np_i x3)]) (rest := []) C (c_Spelling_lowBytes l x1 x3 _) np_allgood tw_348 tw_349 tw_14 tw_350 (nA := 2) (by decide +kernel) rfl ⟨rfl, rfl, Nat.le_of_ble_eq_true rfl, Nat.le_of_ble_eq_true rfl⟩ hat rfl hl.1 (Nat.le_of_ble_eq_true rfl) dd_N_word_20 hf (fun o2 H locs hf hat => ?_)
    refine lv_lstore (lv' := [(4, .long (np_l o2.1)), (0, .ref (q 0)), (1, .long (np_l x1)), (3, .int (np_i x3))]) C.x C.b dd_N_word_23 hl (by decide) rfl (fun ls hl => ?_)
    refine lv_lload C.x C.b dd_N_word_25 (lv_at hl 0 rfl) ?_
    refine np_ldc2 (v := 40) C tw_473 dd_N_word_27 ?_
    refine np_lcmp C dd_N_word_30 hf (fun hf => ?_)
    refine np_if_eq (tgt := 43) C dd_N_word_31 (by decide) hf (fun _ hf => ?_) (fun _ hf => ?_)
    · exact w_f_N_word_43 C hQ hno hlocks htr hT   _ _ _ _ hf hat (lv_sub hl [] rfl)
    · refine lv_lload C.x C.b dd_N_word_34 (lv_at hl 0 rfl) ?_
      refine np_ldc2 (v := 41) C tw_474 dd_N_word_36 ?_
      refine np_lcmp C dd_N_word_39 hf (fun hf => ?_)
      refine np_if_ne (tgt := 53) C dd_N_word_40 (by decide) hf (fun _ hf => ?_) (fun _ hf => ?_)
      · refine lv_aload_n C.x C.b dd_N_word_53 rfl (lv_at hl 1 rfl) ?_
        refine np_get (v := .ref (q 1)) C i_N hat.1 0 (nc_o0 _) rfl 0 (by decide) tw_204 rfl rfl dd_N_word_54 ?_
        refine np_get (v := .int (np_i (o2.2 1 5))) C i_Grammar hat.1 1 (nc_o1 _) rfl 5 (by decide) tw_63 rfl rfl dd_N_word_57 ?_
        refine lv_bipush (v := np_i 6) C.x C.b dd_N_word_60 (by decide +kernel) ?_
        refine np_icmp_lt (tgt := 75) C dd_N_word_62 (by decide) hf (fun _ hf => ?_) (fun _ hf => ?_)
        · refine lv_aload_n C.x C.b dd_N_word_75 rfl (lv_at hl 1 rfl) ?_
          refine np_get (v := .ref (q 1)) C i_N hat.1 0 (nc_o0 _) rfl 0 (by decide) tw_204 rfl rfl dd_N_word_76 ?_
          refine lv_iconst (v := np_i (-1)) C.x C.b dd_N_word_79 rfl ?_
          refine lv_lload C.x C.b dd_N_word_80 (lv_at hl 0 rfl) ?_
          refine np_callVi (As := [.int (np_i ((-1))), .long (np_l o2.1)]) (rest := []) C (c_Grammar_takePart l ((-1)) o2.1 _) np_allgood tw_461 tw_462 tw_463 tw_2 tw_464 (nA := 2) (by decide +kernel) rfl ⟨rfl, rfl, Nat.le_of_ble_eq_true rfl, Nat.le_of_ble_eq_true rfl⟩ (va_recv C.k hat.1 (ci := 1) (q0 := 1) rfl (nc_o1 _)) hat rfl hl.1 (Nat.le_of_ble_eq_true rfl) dd_N_word_82 hf (fun o3 H locs hf hat => ?_)
          exact hQ _ _ _ _ _ dd_N_word_85 hf hat
        · exact np_throw C np_allgood htr hat (Xn := "java/lang/IllegalStateException") (tx := "there are 6 parts in hand") (up := ["java/lang/RuntimeException", "java/lang/Exception"]) (i0 := 71) (i1 := 73) (i2 := 75) (qa := gA (200 + 73)) (by decide +kernel) (by decide +kernel) at_ISE1 at_ISE2 tw_444 tw_13 tw_445 (C.en.2.2.2.2.2.2.1 (73, "there are 6 parts in hand") (by decide +kernel)) dd_N_word_65 dd_N_word_68 dd_N_word_69 dd_N_word_71 dd_N_word_74 hl.1 hno ⟨Nat.le_of_ble_eq_true rfl, Nat.le_of_ble_eq_true rfl, Nat.le_of_ble_eq_true rfl, Nat.le_of_ble_eq_true rfl⟩ hlocks (hT 1 _ rfl hf)
      · exact w_f_N_word_43 C hQ hno hlocks htr hT   _ _ _ _ hf hat (lv_sub hl [] rfl)
  · exact np_throw C np_allgood htr hat (Xn := "java/lang/IllegalArgumentException") (tx := "it is no word") (up := ["java/lang/RuntimeException", "java/lang/Exception"]) (i0 := 55) (i1 := 88) (i2 := 59) (qa := gA (200 + 88)) (by decide +kernel) (by decide +kernel) at_IAE1 at_IAE2 tw_372 tw_12 tw_373 (C.en.2.2.2.2.2.2.1 (88, "it is no word") (by decide +kernel)) dd_N_word_8 dd_N_word_11 dd_N_word_12 dd_N_word_14 dd_N_word_17 hl.1 hno ⟨Nat.le_of_ble_eq_true rfl, Nat.le_of_ble_eq_true rfl, Nat.le_of_ble_eq_true rfl, Nat.le_of_ble_eq_true rfl⟩ hlocks (hT 0 _ rfl hf)
set_option maxHeartbeats 4000000 in
set_option maxRecDepth 100000 in
theorem c_N_word (l : Launch) (htr : l.stackTraces = false) {gA : Nat → Nat} {D : va_G} {q : Nat → Nat} {cA : Nat → ClassId} (x1 x3 : Int) (σ : np_S) : np_Mx gA l D np_cl (np_ty cA) (nc_wd q cA) yy_N_word (.code yy_N_word prog_1_method_3_code 6 (some .int) :: np_al) { frames := 6, cells := 1, slots := 6, locals := 135 } [.ref (q 0), .long (np_l x1), .int (np_i x3)] σ (f_N_word x1 x3 σ) :=
  np_mkx (by decide +kernel) (Nat.le_of_ble_eq_true rfl) (fun o p e R s m args below meth c Q A ls hf C hno hlocks hQ hT hat hl => w_f_N_word C hQ hno hlocks htr hT x1 x3 σ _ _ _ hf hat (lv_sub hl [0, 1, 2] rfl))
set_option maxHeartbeats 4000000 in
set_option maxRecDepth 100000 in
theorem w_f_N_notation_20 (C : np_Cx gA p R s m args c D np_cl (np_ty cA) A np_al "NotationParse" prog_1_method_4_code 2 { frames := 6, cells := 1, slots := 6, locals := 82 }) (hQ : ∀ (pc : Nat) (ls : Array Slot) (H : Heap) (locs : List Loc) (v : Int) {σ : np_S}, decode prog_1_method_4_code pc = .ok (.ireturn, 1) → some ((0 : Nat), v, σ) = some out → np_At D np_cl A (nc_wd q cA) s σ H locs → W p l e R s m args below meth c H locs 0 0 Q (F0 m pc ls [.int (np_i v)])) (hno : c.exceptionTable.isEmpty = true) (hlocks : meth.locks = false) (htr : l.stackTraces = false) (hT : ∀ (k : Nat) (Xn : String) {σ2 : np_S} {locs : List Loc}, np_xn (k + 1) = Xn → some (k + 1, (0 : Int), σ2) = some out → ∀ (U : State) (a : Nat) (ce : Cell), U.status = .running → Ended U below (.threw a) → s.WarmedH U.vm → s.sameButNew ({ U with vm := s.vm } : State) locs (0 + 1) (0 + 6) → np_At D np_cl A (nc_wd q cA) s σ2 U.heap locs → U.heap[a]? = some ce → s.vm.findClass Xn = some ce.cls → ce.vm = .none → Q U)   : ∀ (σ : np_S) (H : Heap) (locs : List Loc) (ls : Array Slot), f_N_notation_20  σ = some out → np_At D np_cl A (nc_wd q cA) s σ H locs → lv_has ls 2 [(0, .ref (q 0))] → W p l e R s m args below meth c H locs 0 0 Q (F0 m 20 ls []) := by
  intro σ H locs ls hf hat hl
  unfold f_N_notation_20 at hf
  refine lv_aload_n C.x C.b dd_N_notation_20 rfl (lv_at hl 0 rfl) ?_
  refine np_get (v := .ref (q 1)) C i_N hat.1 0 (nc_o0 _) rfl 0 (by decide) tw_204 rfl rfl dd_N_notation_21 ?_
  refine np_callVv (As := []) (rest := []) C (c_Grammar_dropHand l _) np_allgood tw_487 tw_488 tw_489 tw_2 tw_490 (nA := 0) (by decide +kernel) rfl ⟨rfl, rfl, Nat.le_of_ble_eq_true rfl, Nat.le_of_ble_eq_true rfl⟩ (va_recv C.k hat.1 (ci := 1) (q0 := 1) rfl (nc_o1 _)) hat rfl hl.1 (Nat.le_of_ble_eq_true rfl) dd_N_notation_24 hf (fun o1 H locs hf hat => ?_)
  exact np_throw C np_allgood htr hat (Xn := "java/lang/IllegalArgumentException") (tx := "a level is 0 to 9 and one part is a word") (up := ["java/lang/RuntimeException", "java/lang/Exception"]) (i0 := 55) (i1 := 106) (i2 := 59) (qa := gA (200 + 106)) (by decide +kernel) (by decide +kernel) at_IAE1 at_IAE2 tw_372 tw_12 tw_373 (C.en.2.2.2.2.2.2.1 (106, "a level is 0 to 9 and one part is a word") (by decide +kernel)) dd_N_notation_27 dd_N_notation_30 dd_N_notation_31 dd_N_notation_33 dd_N_notation_36 hl.1 hno ⟨Nat.le_of_ble_eq_true rfl, Nat.le_of_ble_eq_true rfl, Nat.le_of_ble_eq_true rfl, Nat.le_of_ble_eq_true rfl⟩ hlocks (hT 0 _ rfl hf)
set_option maxHeartbeats 4000000 in
set_option maxRecDepth 100000 in
theorem w_f_N_notation (C : np_Cx gA p R s m args c D np_cl (np_ty cA) A np_al "NotationParse" prog_1_method_4_code 2 { frames := 6, cells := 1, slots := 6, locals := 82 }) (hQ : ∀ (pc : Nat) (ls : Array Slot) (H : Heap) (locs : List Loc) (v : Int) {σ : np_S}, decode prog_1_method_4_code pc = .ok (.ireturn, 1) → some ((0 : Nat), v, σ) = some out → np_At D np_cl A (nc_wd q cA) s σ H locs → W p l e R s m args below meth c H locs 0 0 Q (F0 m pc ls [.int (np_i v)])) (hno : c.exceptionTable.isEmpty = true) (hlocks : meth.locks = false) (htr : l.stackTraces = false) (hT : ∀ (k : Nat) (Xn : String) {σ2 : np_S} {locs : List Loc}, np_xn (k + 1) = Xn → some (k + 1, (0 : Int), σ2) = some out → ∀ (U : State) (a : Nat) (ce : Cell), U.status = .running → Ended U below (.threw a) → s.WarmedH U.vm → s.sameButNew ({ U with vm := s.vm } : State) locs (0 + 1) (0 + 6) → np_At D np_cl A (nc_wd q cA) s σ2 U.heap locs → U.heap[a]? = some ce → s.vm.findClass Xn = some ce.cls → ce.vm = .none → Q U)   : ∀ (x1 : Int) (σ : np_S) (H : Heap) (locs : List Loc) (ls : Array Slot), f_N_notation  x1 σ = some out → np_At D np_cl A (nc_wd q cA) s σ H locs → lv_has ls 2 [(0, .ref (q 0)), (1, .int (np_i x1))] → W p l e R s m args below meth c H locs 0 0 Q (F0 m 0 ls []) := by
  intro x1 σ H locs ls hf hat hl
  unfold f_N_notation at hf
  refine lv_iload_n C.x C.b dd_N_notation_0 rfl (lv_at hl 1 rfl) ?_
  refine np_if_lt (tgt := 20) C dd_N_notation_1 (by decide) hf (fun _ hf => ?_) (fun _ hf => ?_)
  · exact w_f_N_notation_20 C hQ hno hlocks htr hT   _ _ _ _ hf hat (lv_sub hl [0] rfl)
  · refine lv_iload_n C.x C.b dd_N_notation_4 rfl (lv_at hl 1 rfl) ?_
    refine lv_bipush (v := np_i 9) C.x C.b dd_N_notation_5 (by decide +kernel) ?_
    refine np_icmp_gt (tgt := 20) C dd_N_notation_7 (by decide) hf (fun _ hf => ?_) (fun _ hf => ?_)
    · exact w_f_N_notation_20 C hQ hno hlocks htr hT   _ _ _ _ hf hat (lv_sub hl [0] rfl)
    · refine lv_aload_n C.x C.b dd_N_notation_10 rfl (lv_at hl 0 rfl) ?_
      refine np_get (v := .ref (q 1)) C i_N hat.1 0 (nc_o0 _) rfl 0 (by decide) tw_204 rfl rfl dd_N_notation_11 ?_
      refine np_callVi (As := []) (rest := []) C (c_Grammar_handHasWord l _) np_allgood tw_483 tw_484 tw_485 tw_2 tw_486 (nA := 0) (by decide +kernel) rfl ⟨rfl, rfl, Nat.le_of_ble_eq_true rfl, Nat.le_of_ble_eq_true rfl⟩ (va_recv C.k hat.1 (ci := 1) (q0 := 1) rfl (nc_o1 _)) hat rfl hl.1 (Nat.le_of_ble_eq_true rfl) dd_N_notation_14 hf (fun o2 H locs hf hat => ?_)
      refine np_if_ne (tgt := 37) C dd_N_notation_17 (by decide) hf (fun _ hf => ?_) (fun _ hf => ?_)
      · refine lv_aload_n C.x C.b dd_N_notation_37 rfl (lv_at hl 0 rfl) ?_
        refine np_get (v := .ref (q 1)) C i_N hat.1 0 (nc_o0 _) rfl 0 (by decide) tw_204 rfl rfl dd_N_notation_38 ?_
        refine np_get (v := .int (np_i (o2.2 1 4))) C i_Grammar hat.1 1 (nc_o1 _) rfl 4 (by decide) tw_60 rfl rfl dd_N_notation_41 ?_
        refine lv_bipush (v := np_i 14) C.x C.b dd_N_notation_44 (by decide +kernel) ?_
        refine np_icmp_lt (tgt := 59) C dd_N_notation_46 (by decide) hf (fun _ hf => ?_) (fun _ hf => ?_)
        · refine lv_aload_n C.x C.b dd_N_notation_59 rfl (lv_at hl 0 rfl) ?_
          refine np_get (v := .ref (q 15)) C i_N hat.1 0 (nc_o0 _) rfl 3 (by decide) tw_207 rfl rfl dd_N_notation_60 ?_
          refine np_callVv (As := []) (rest := []) C (c_Tree_fell l _) np_allgood tw_708 tw_709 tw_710 tw_6 tw_711 (nA := 0) (by decide +kernel) rfl ⟨rfl, rfl, Nat.le_of_ble_eq_true rfl, Nat.le_of_ble_eq_true rfl⟩ (va_recv C.k hat.1 (ci := 4) (q0 := 15) rfl (nc_o15 _)) hat rfl hl.1 (Nat.le_of_ble_eq_true rfl) dd_N_notation_63 hf (fun o3 H locs hf hat => ?_)
          refine lv_aload_n C.x C.b dd_N_notation_66 rfl (lv_at hl 0 rfl) ?_
          refine np_get (v := .ref (q 1)) C i_N hat.1 0 (nc_o0 _) rfl 0 (by decide) tw_204 rfl rfl dd_N_notation_67 ?_
          refine lv_iload_n C.x C.b dd_N_notation_70 rfl (lv_at hl 1 rfl) ?_
          refine np_callVi (As := [.int (np_i x1)]) (rest := []) C (c_Grammar_makeRule l x1 _) np_allgood tw_712 tw_713 tw_714 tw_2 tw_715 (nA := 1) (by decide +kernel) rfl ⟨rfl, rfl, Nat.le_of_ble_eq_true rfl, Nat.le_of_ble_eq_true rfl⟩ (va_recv C.k hat.1 (ci := 1) (q0 := 1) rfl (nc_o1 _)) hat rfl hl.1 (Nat.le_of_ble_eq_true rfl) dd_N_notation_71 hf (fun o4 H locs hf hat => ?_)
          refine lv_iconst (v := np_i 2) C.x C.b dd_N_notation_74 rfl ?_
          refine np_isub C dd_N_notation_75 ?_
          exact hQ _ _ _ _ _ dd_N_notation_76 hf hat
        · exact np_throw C np_allgood htr hat (Xn := "java/lang/IllegalStateException") (tx := "there are 12 notations") (up := ["java/lang/RuntimeException", "java/lang/Exception"]) (i0 := 71) (i1 := 111) (i2 := 75) (qa := gA (200 + 111)) (by decide +kernel) (by decide +kernel) at_ISE1 at_ISE2 tw_444 tw_13 tw_445 (C.en.2.2.2.2.2.2.1 (111, "there are 12 notations") (by decide +kernel)) dd_N_notation_49 dd_N_notation_52 dd_N_notation_53 dd_N_notation_55 dd_N_notation_58 hl.1 hno ⟨Nat.le_of_ble_eq_true rfl, Nat.le_of_ble_eq_true rfl, Nat.le_of_ble_eq_true rfl, Nat.le_of_ble_eq_true rfl⟩ hlocks (hT 1 _ rfl hf)
      · exact w_f_N_notation_20 C hQ hno hlocks htr hT   _ _ _ _ hf hat (lv_sub hl [0] rfl)
set_option maxHeartbeats 4000000 in
set_option maxRecDepth 100000 in
theorem c_N_notation (l : Launch) (htr : l.stackTraces = false) {gA : Nat → Nat} {D : va_G} {q : Nat → Nat} {cA : Nat → ClassId} (x1 : Int) (σ : np_S) : np_Mx gA l D np_cl (np_ty cA) (nc_wd q cA) yy_N_notation (.code yy_N_notation prog_1_method_4_code 2 (some .int) :: np_al) { frames := 6, cells := 1, slots := 6, locals := 82 } [.ref (q 0), .int (np_i x1)] σ (f_N_notation x1 σ) :=
  np_mkx (by decide +kernel) (Nat.le_of_ble_eq_true rfl) (fun o p e R s m args below meth c Q A ls hf C hno hlocks hQ hT hat hl => w_f_N_notation C hQ hno hlocks htr hT x1 σ _ _ _ hf hat (lv_sub hl [0, 1] rfl))
set_option maxHeartbeats 4000000 in
set_option maxRecDepth 100000 in
theorem w_f_N_read_73 (C : np_Cx gA p R s m args c D np_cl (np_ty cA) A np_al "NotationParse" prog_1_method_7_code 2 { frames := 8, cells := 1, slots := 6, locals := 180 }) (hQ : ∀ (pc : Nat) (ls : Array Slot) (H : Heap) (locs : List Loc) (v : Int) {σ : np_S}, decode prog_1_method_7_code pc = .ok (.ireturn, 1) → some ((0 : Nat), v, σ) = some out → np_At D np_cl A (nc_wd q cA) s σ H locs → W p l e R s m args below meth c H locs 0 0 Q (F0 m pc ls [.int (np_i v)])) (hno : c.exceptionTable.isEmpty = true) (hlocks : meth.locks = false) (htr : l.stackTraces = false) (hT : ∀ (k : Nat) (Xn : String) {σ2 : np_S} {locs : List Loc}, np_xn (k + 1) = Xn → some (k + 1, (0 : Int), σ2) = some out → ∀ (U : State) (a : Nat) (ce : Cell), U.status = .running → Ended U below (.threw a) → s.WarmedH U.vm → s.sameButNew ({ U with vm := s.vm } : State) locs (0 + 1) (0 + 6) → np_At D np_cl A (nc_wd q cA) s σ2 U.heap locs → U.heap[a]? = some ce → s.vm.findClass Xn = some ce.cls → ce.vm = .none → Q U)   : ∀ (x1 : Int) (σ : np_S) (H : Heap) (locs : List Loc) (ls : Array Slot), f_N_read_73  x1 σ = some out → np_At D np_cl A (nc_wd q cA) s σ H locs → lv_has ls 2 [(1, .int (np_i x1))] → W p l e R s m args below meth c H locs 0 0 Q (F0 m 73 ls []) := by
  intro x1 σ H locs ls hf hat hl
  unfold f_N_read_73 at hf
  refine lv_iload_n C.x C.b dd_N_read_73 rfl (lv_at hl 0 rfl) ?_
  exact hQ _ _ _ _ _ dd_N_read_74 hf hat
set_option maxHeartbeats 4000000 in
set_option maxRecDepth 100000 in
theorem w_f_N_read (C : np_Cx gA p R s m args c D np_cl (np_ty cA) A np_al "NotationParse" prog_1_method_7_code 2 { frames := 8, cells := 1, slots := 6, locals := 180 }) (hQ : ∀ (pc : Nat) (ls : Array Slot) (H : Heap) (locs : List Loc) (v : Int) {σ : np_S}, decode prog_1_method_7_code pc = .ok (.ireturn, 1) → some ((0 : Nat), v, σ) = some out → np_At D np_cl A (nc_wd q cA) s σ H locs → W p l e R s m args below meth c H locs 0 0 Q (F0 m pc ls [.int (np_i v)])) (hno : c.exceptionTable.isEmpty = true) (hlocks : meth.locks = false) (htr : l.stackTraces = false) (hT : ∀ (k : Nat) (Xn : String) {σ2 : np_S} {locs : List Loc}, np_xn (k + 1) = Xn → some (k + 1, (0 : Int), σ2) = some out → ∀ (U : State) (a : Nat) (ce : Cell), U.status = .running → Ended U below (.threw a) → s.WarmedH U.vm → s.sameButNew ({ U with vm := s.vm } : State) locs (0 + 1) (0 + 6) → np_At D np_cl A (nc_wd q cA) s σ2 U.heap locs → U.heap[a]? = some ce → s.vm.findClass Xn = some ce.cls → ce.vm = .none → Q U)   : ∀ (σ : np_S) (H : Heap) (locs : List Loc) (ls : Array Slot), f_N_read  σ = some out → np_At D np_cl A (nc_wd q cA) s σ H locs → lv_has ls 2 [(0, .ref (q 0))] → W p l e R s m args below meth c H locs 0 0 Q (F0 m 0 ls []) := by
  intro σ H locs ls hf hat hl
  unfold f_N_read at hf
  refine lv_aload_n C.x C.b dd_N_read_0 rfl (lv_at hl 0 rfl) ?_
  refine np_get (v := .ref (q 15)) C i_N hat.1 0 (nc_o0 _) rfl 3 (by decide) tw_207 rfl rfl dd_N_read_1 ?_
  refine np_callVv (As := []) (rest := []) C (c_Tree_fell l _) np_allgood tw_708 tw_709 tw_710 tw_6 tw_711 (nA := 0) (by decide +kernel) rfl ⟨rfl, rfl, Nat.le_of_ble_eq_true rfl, Nat.le_of_ble_eq_true rfl⟩ (va_recv C.k hat.1 (ci := 4) (q0 := 15) rfl (nc_o15 _)) hat rfl hl.1 (Nat.le_of_ble_eq_true rfl) dd_N_read_4 hf (fun o1 H locs hf hat => ?_)
  refine lv_aload_n C.x C.b dd_N_read_7 rfl (lv_at hl 0 rfl) ?_
  refine np_get (v := .ref (q 6)) C i_N hat.1 0 (nc_o0 _) rfl 1 (by decide) tw_205 rfl rfl dd_N_read_8 ?_
  refine lv_aload_n C.x C.b dd_N_read_11 rfl (lv_at hl 0 rfl) ?_
  refine np_get (v := .ref (q 1)) C i_N hat.1 0 (nc_o0 _) rfl 0 (by decide) tw_204 rfl rfl dd_N_read_12 ?_
  refine np_callVv (As := [.ref (q 1)]) (rest := []) C (c_Text_cut l _) np_allgood tw_723 tw_724 tw_725 tw_4 tw_726 (nA := 1) (by decide +kernel) rfl ⟨rfl, rfl, Nat.le_of_ble_eq_true rfl, Nat.le_of_ble_eq_true rfl⟩ (va_recv C.k hat.1 (ci := 2) (q0 := 6) rfl (nc_o6 _)) hat rfl hl.1 (Nat.le_of_ble_eq_true rfl) dd_N_read_15 hf (fun o2 H locs hf hat => ?_)
  refine lv_aload_n C.x C.b dd_N_read_18 rfl (lv_at hl 0 rfl) ?_
  refine np_callVv (As := []) (rest := []) C (c_N_findFault l _) np_allgood tw_741 tw_743 tp_4 tw_1 tw_744 (nA := 0) (by decide +kernel) rfl ⟨rfl, rfl, Nat.le_of_ble_eq_true rfl, Nat.le_of_ble_eq_true rfl⟩ (va_recv C.k hat.1 (ci := 0) (q0 := 0) rfl (nc_o0 _)) hat rfl hl.1 (Nat.le_of_ble_eq_true rfl) dd_N_read_19 hf (fun o3 H locs hf hat => ?_)
  refine lv_aload_n C.x C.b dd_N_read_22 rfl (lv_at hl 0 rfl) ?_
  refine np_get (v := .int (np_i (o3.2 0 5))) C i_N hat.1 0 (nc_o0 _) rfl 5 (by decide) tw_209 rfl rfl dd_N_read_23 ?_
  refine np_if_eq (tgt := 39) C dd_N_read_26 (by decide) hf (fun _ hf => ?_) (fun _ hf => ?_)
  · refine lv_aload_n C.x C.b dd_N_read_39 rfl (lv_at hl 0 rfl) ?_
    refine np_get (v := .ref (q 11)) C i_N hat.1 0 (nc_o0 _) rfl 2 (by decide) tw_206 rfl rfl dd_N_read_40 ?_
    refine lv_aload_n C.x C.b dd_N_read_43 rfl (lv_at hl 0 rfl) ?_
    refine np_get (v := .ref (q 6)) C i_N hat.1 0 (nc_o0 _) rfl 1 (by decide) tw_205 rfl rfl dd_N_read_44 ?_
    refine np_get (v := .int (np_i (o3.2 6 5))) C i_Text hat.1 6 (nc_o6 _) rfl 5 (by decide) tw_96 rfl rfl dd_N_read_47 ?_
    refine np_callVi (As := [.int (np_i (o3.2 6 5))]) (rest := []) C (c_Chart_countTrees l (o3.2 6 5) _) np_allgood tw_800 tw_801 tw_802 tw_5 tw_803 (nA := 1) (by decide +kernel) rfl ⟨rfl, rfl, Nat.le_of_ble_eq_true rfl, Nat.le_of_ble_eq_true rfl⟩ (va_recv C.k hat.1 (ci := 3) (q0 := 11) rfl (nc_o11 _)) hat rfl hl.1 (Nat.le_of_ble_eq_true rfl) dd_N_read_50 hf (fun o4 H locs hf hat => ?_)
    refine lv_istore_n (lv' := [(1, .int (np_i o4.1)), (0, .ref (q 0))]) C.x C.b dd_N_read_53 rfl hl (by decide) rfl (fun ls hl => ?_)
    refine lv_iload_n C.x C.b dd_N_read_54 rfl (lv_at hl 0 rfl) ?_
    refine lv_iconst (v := np_i 1) C.x C.b dd_N_read_55 rfl ?_
    refine np_icmp_ne (tgt := 73) C dd_N_read_56 (by decide) hf (fun _ hf => ?_) (fun _ hf => ?_)
    · exact w_f_N_read_73 C hQ hno hlocks htr hT  _ _ _ _ _ hf hat (lv_sub hl [0] rfl)
    · refine lv_aload_n C.x C.b dd_N_read_59 rfl (lv_at hl 1 rfl) ?_
      refine np_get (v := .ref (q 15)) C i_N hat.1 0 (nc_o0 _) rfl 3 (by decide) tw_207 rfl rfl dd_N_read_60 ?_
      refine lv_aload_n C.x C.b dd_N_read_63 rfl (lv_at hl 1 rfl) ?_
      refine np_get (v := .ref (q 6)) C i_N hat.1 0 (nc_o0 _) rfl 1 (by decide) tw_205 rfl rfl dd_N_read_64 ?_
      refine np_get (v := .int (np_i (o4.2 6 5))) C i_Text hat.1 6 (nc_o6 _) rfl 5 (by decide) tw_96 rfl rfl dd_N_read_67 ?_
      refine np_callVv (As := [.int (np_i (o4.2 6 5))]) (rest := []) C (c_Tree_grow l (o4.2 6 5) _) np_allgood tw_838 tw_839 tw_840 tw_6 tw_841 (nA := 1) (by decide +kernel) rfl ⟨rfl, rfl, Nat.le_of_ble_eq_true rfl, Nat.le_of_ble_eq_true rfl⟩ (va_recv C.k hat.1 (ci := 4) (q0 := 15) rfl (nc_o15 _)) hat rfl hl.1 (Nat.le_of_ble_eq_true rfl) dd_N_read_70 hf (fun o5 H locs hf hat => ?_)
      exact w_f_N_read_73 C hQ hno hlocks htr hT  _ _ _ _ _ hf hat (lv_sub hl [0] rfl)
  · exact np_throw C np_allgood htr hat (Xn := "java/lang/IllegalArgumentException") (tx := "the text has a fault") (up := ["java/lang/RuntimeException", "java/lang/Exception"]) (i0 := 55) (i1 := 133) (i2 := 59) (qa := gA (200 + 133)) (by decide +kernel) (by decide +kernel) at_IAE1 at_IAE2 tw_372 tw_12 tw_373 (C.en.2.2.2.2.2.2.1 (133, "the text has a fault") (by decide +kernel)) dd_N_read_29 dd_N_read_32 dd_N_read_33 dd_N_read_35 dd_N_read_38 hl.1 hno ⟨Nat.le_of_ble_eq_true rfl, Nat.le_of_ble_eq_true rfl, Nat.le_of_ble_eq_true rfl, Nat.le_of_ble_eq_true rfl⟩ hlocks (hT 0 _ rfl hf)
set_option maxHeartbeats 4000000 in
set_option maxRecDepth 100000 in
theorem c_N_read (l : Launch) (htr : l.stackTraces = false) {gA : Nat → Nat} {D : va_G} {q : Nat → Nat} {cA : Nat → ClassId} (σ : np_S) : np_Mx gA l D np_cl (np_ty cA) (nc_wd q cA) yy_N_read (.code yy_N_read prog_1_method_7_code 2 (some .int) :: np_al) { frames := 8, cells := 1, slots := 6, locals := 180 } [.ref (q 0)] σ (f_N_read  σ) :=
  np_mkx (by decide +kernel) (Nat.le_of_ble_eq_true rfl) (fun o p e R s m args below meth c Q A ls hf C hno hlocks hQ hT hat hl => w_f_N_read C hQ hno hlocks htr hT  σ _ _ _ hf hat (lv_sub hl [0] rfl))
end NWX
