theorem at_NSE1 : ∀ w ∈ nx_at "NotationParse" 173, goodWord w = true → w ∈ np_al := np_subw [59, 444, 453, 457, 460, 462, 445, 446, 83, 84, 447, 452, 458, 478, 434, 479, 436, 480, 438, 448, 450, 440, 474, 475, 477, 440, 932, 933, 934, 468, 468, 469, 470, 471, 471, 472, 473, 474, 931, 922, 924, 456, 925, 926, 927, 928, 443, 442, 929] (by decide +kernel)
theorem at_NSE2 : ∀ w ∈ nx_at "NotationParse" 173, goodWord w = true ∨ w ∈ [Cond.laysStatic "java/lang/Throwable" "UNASSIGNED_STACK" "[Ljava/lang/StackTraceElement;", Cond.laysStatic "java/lang/Throwable" "SUPPRESSED_SENTINEL" "Ljava/util/List;", Cond.isRef (.static "java/lang/Throwable" "UNASSIGNED_STACK" "[Ljava/lang/StackTraceElement;"), Cond.isRef (.static "java/lang/Throwable" "SUPPRESSED_SENTINEL" "Ljava/util/List;")] ∨ (w ∈ np_cw ∧ w.onTables = true) := by decide +kernel
section NWN
variable {p : Program} {l : Launch} {e : Env} {R : Room} {s : State} {m : MethodId} {args : Array Value} {below : List Frame} {meth : Method} {c : Code} {Q : State → Prop} {D : va_G} {A : Nat → Prop} {q : Nat → Nat} {cA : Nat → ClassId} {out : np_X} {gA : Nat → Nat}
set_option maxHeartbeats 4000000 in
set_option maxRecDepth 100000 in
theorem w_f_N_node_15 (C : np_Cx gA p R s m args c D np_cl (np_ty cA) A np_al "NotationParse" prog_1_method_11_code 3 { frames := 6, cells := 1, slots := 6, locals := 82 }) (hQ : ∀ (pc : Nat) (ls : Array Slot) (H : Heap) (locs : List Loc) (v : Int) {σ : np_S}, decode prog_1_method_11_code pc = .ok (.ireturn, 1) → some ((0 : Nat), v, σ) = some out → np_At D np_cl A (nc_wd q cA) s σ H locs → W p l e R s m args below meth c H locs 0 0 Q (F0 m pc ls [.int (np_i v)])) (hno : c.exceptionTable.isEmpty = true) (hlocks : meth.locks = false) (htr : l.stackTraces = false) (hT : ∀ (k : Nat) (Xn : String) {σ2 : np_S} {locs : List Loc}, np_xn (k + 1) = Xn → some (k + 1, (0 : Int), σ2) = some out → ∀ (U : State) (a : Nat) (ce : Cell), U.status = .running → Ended U below (.threw a) → s.WarmedH U.vm → s.sameButNew ({ U with vm := s.vm } : State) locs (0 + 1) (0 + 6) → np_At D np_cl A (nc_wd q cA) s σ2 U.heap locs → U.heap[a]? = some ce → s.vm.findClass Xn = some ce.cls → ce.vm = .none → Q U)   : ∀ (σ : np_S) (H : Heap) (locs : List Loc) (ls : Array Slot), f_N_node_15  σ = some out → np_At D np_cl A (nc_wd q cA) s σ H locs → lv_has ls 3 [] → W p l e R s m args below meth c H locs 0 0 Q (F0 m 15 ls []) := by
  intro σ H locs ls hf hat hl
  unfold f_N_node_15 at hf
  exact np_throwN C np_allgood htr hat (tx := "no such node") (i0 := 169) (i1 := 171) (i2 := 173) (qa := gA (200 + 171)) at_NSE1 at_NSE2 tw_871 tw_26 tw_872 (C.en.2.2.2.2.2.2.1 (171, "no such node") (by decide +kernel)) dd_N_node_15 dd_N_node_18 dd_N_node_19 dd_N_node_21 dd_N_node_24 hl.1 hno ⟨Nat.le_of_ble_eq_true rfl, Nat.le_of_ble_eq_true rfl, Nat.le_of_ble_eq_true rfl, Nat.le_of_ble_eq_true rfl⟩ hlocks (hT 2 _ rfl hf)
set_option maxHeartbeats 4000000 in
set_option maxRecDepth 100000 in
theorem w_f_N_node (C : np_Cx gA p R s m args c D np_cl (np_ty cA) A np_al "NotationParse" prog_1_method_11_code 3 { frames := 6, cells := 1, slots := 6, locals := 82 }) (hQ : ∀ (pc : Nat) (ls : Array Slot) (H : Heap) (locs : List Loc) (v : Int) {σ : np_S}, decode prog_1_method_11_code pc = .ok (.ireturn, 1) → some ((0 : Nat), v, σ) = some out → np_At D np_cl A (nc_wd q cA) s σ H locs → W p l e R s m args below meth c H locs 0 0 Q (F0 m pc ls [.int (np_i v)])) (hno : c.exceptionTable.isEmpty = true) (hlocks : meth.locks = false) (htr : l.stackTraces = false) (hT : ∀ (k : Nat) (Xn : String) {σ2 : np_S} {locs : List Loc}, np_xn (k + 1) = Xn → some (k + 1, (0 : Int), σ2) = some out → ∀ (U : State) (a : Nat) (ce : Cell), U.status = .running → Ended U below (.threw a) → s.WarmedH U.vm → s.sameButNew ({ U with vm := s.vm } : State) locs (0 + 1) (0 + 6) → np_At D np_cl A (nc_wd q cA) s σ2 U.heap locs → U.heap[a]? = some ce → s.vm.findClass Xn = some ce.cls → ce.vm = .none → Q U)   : ∀ (x1 x2 : Int) (σ : np_S) (H : Heap) (locs : List Loc) (ls : Array Slot), f_N_node  x1 x2 σ = some out → np_At D np_cl A (nc_wd q cA) s σ H locs → lv_has ls 3 [(0, .ref (q 0)), (1, .int (np_i x1)), (2, .int (np_i x2))] → W p l e R s m args below meth c H locs 0 0 Q (F0 m 0 ls []) := by
  intro x1 x2 σ H locs ls hf hat hl
  unfold f_N_node at hf
  refine lv_iload_n C.x C.b dd_N_node_0 rfl (lv_at hl 1 rfl) ?_
  refine np_if_lt (tgt := 15) C dd_N_node_1 (by decide) hf (fun _ hf => ?_) (fun _ hf => ?_)
  · exact w_f_N_node_15 C hQ hno hlocks htr hT   _ _ _ _ hf hat (lv_sub hl [] rfl)
  · refine lv_iload_n C.x C.b dd_N_node_4 rfl (lv_at hl 1 rfl) ?_
    refine lv_aload_n C.x C.b dd_N_node_5 rfl (lv_at hl 0 rfl) ?_
    refine np_get (v := .ref (q 15)) C i_N hat.1 0 (nc_o0 _) rfl 3 (by decide) tw_207 rfl rfl dd_N_node_6 ?_
    refine np_get (v := .int (np_i (σ 15 2))) C i_Tree hat.1 15 (nc_o15 _) rfl 2 (by decide) tw_143 rfl rfl dd_N_node_9 ?_
    refine np_icmp_lt (tgt := 25) C dd_N_node_12 (by decide) hf (fun _ hf => ?_) (fun _ hf => ?_)
    · refine lv_iload_n C.x C.b dd_N_node_25 rfl (lv_at hl 2 rfl) ?_
      obtain ⟨hR, hf⟩ := np_ck_e hf
      refine np_case hf (fun hx hf => ?_) (fun n0 hf => ?_)
      · refine np_tswI (tgt := 60) (off := 34) C dd_N_node_26 hx (by decide +kernel) (by decide +kernel) (by decide +kernel) (by decide) ?_
        refine lv_aload_n C.x C.b dd_N_node_60 rfl (lv_at hl 0 rfl) ?_
        refine np_get (v := .ref (q 15)) C i_N hat.1 0 (nc_o0 _) rfl 3 (by decide) tw_207 rfl rfl dd_N_node_61 ?_
        refine np_get (v := .ref (q 16)) C i_Tree hat.1 15 (nc_o15 _) rfl 3 (by decide) tw_145 rfl rfl dd_N_node_64 ?_
        refine lv_iload_n C.x C.b dd_N_node_67 rfl (lv_at hl 1 rfl) ?_
        refine np_iaload C hat.1 16 (nc_a16 _) 0 rfl (by decide) dd_N_node_68 hf (fun hf => ?_)
        refine lv_iconst (v := np_i 2) C.x C.b dd_N_node_69 rfl ?_
        refine np_isub C dd_N_node_70 ?_
        exact hQ _ _ _ _ _ dd_N_node_71 hf hat
      refine np_case hf (fun hx hf => ?_) (fun n1 hf => ?_)
      · refine np_tswI (tgt := 72) (off := 46) C dd_N_node_26 hx (by decide +kernel) (by decide +kernel) (by decide +kernel) (by decide) ?_
        refine lv_aload_n C.x C.b dd_N_node_72 rfl (lv_at hl 0 rfl) ?_
        refine np_get (v := .ref (q 15)) C i_N hat.1 0 (nc_o0 _) rfl 3 (by decide) tw_207 rfl rfl dd_N_node_73 ?_
        refine np_get (v := .ref (q 17)) C i_Tree hat.1 15 (nc_o15 _) rfl 4 (by decide) tw_147 rfl rfl dd_N_node_76 ?_
        refine lv_iload_n C.x C.b dd_N_node_79 rfl (lv_at hl 1 rfl) ?_
        refine np_iaload C hat.1 17 (nc_a17 _) 0 rfl (by decide) dd_N_node_80 hf (fun hf => ?_)
        exact hQ _ _ _ _ _ dd_N_node_81 hf hat
      refine np_case hf (fun hx hf => ?_) (fun n2 hf => ?_)
      · refine np_tswI (tgt := 82) (off := 56) C dd_N_node_26 hx (by decide +kernel) (by decide +kernel) (by decide +kernel) (by decide) ?_
        refine lv_aload_n C.x C.b dd_N_node_82 rfl (lv_at hl 0 rfl) ?_
        refine np_get (v := .ref (q 6)) C i_N hat.1 0 (nc_o0 _) rfl 1 (by decide) tw_205 rfl rfl dd_N_node_83 ?_
        refine np_get (v := .ref (q 10)) C i_Text hat.1 6 (nc_o6 _) rfl 4 (by decide) tw_93 rfl rfl dd_N_node_86 ?_
        refine lv_aload_n C.x C.b dd_N_node_89 rfl (lv_at hl 0 rfl) ?_
        refine np_get (v := .ref (q 15)) C i_N hat.1 0 (nc_o0 _) rfl 3 (by decide) tw_207 rfl rfl dd_N_node_90 ?_
        refine np_get (v := .ref (q 18)) C i_Tree hat.1 15 (nc_o15 _) rfl 5 (by decide) tw_149 rfl rfl dd_N_node_93 ?_
        refine lv_iload_n C.x C.b dd_N_node_96 rfl (lv_at hl 1 rfl) ?_
        refine np_iaload C hat.1 18 (nc_a18 _) 0 rfl (by decide) dd_N_node_97 hf (fun hf => ?_)
        refine np_iaload C hat.1 10 (nc_a10 _) 0 rfl (by decide) dd_N_node_98 hf (fun hf => ?_)
        exact hQ _ _ _ _ _ dd_N_node_99 hf hat
      refine np_case hf (fun hx hf => ?_) (fun n3 hf => ?_)
      · refine np_tswI (tgt := 100) (off := 74) C dd_N_node_26 hx (by decide +kernel) (by decide +kernel) (by decide +kernel) (by decide) ?_
        refine lv_aload_n C.x C.b dd_N_node_100 rfl (lv_at hl 0 rfl) ?_
        refine np_get (v := .ref (q 15)) C i_N hat.1 0 (nc_o0 _) rfl 3 (by decide) tw_207 rfl rfl dd_N_node_101 ?_
        refine np_get (v := .ref (q 19)) C i_Tree hat.1 15 (nc_o15 _) rfl 6 (by decide) tw_151 rfl rfl dd_N_node_104 ?_
        refine lv_iload_n C.x C.b dd_N_node_107 rfl (lv_at hl 1 rfl) ?_
        refine np_iaload C hat.1 19 (nc_a19 _) 0 rfl (by decide) dd_N_node_108 hf (fun hf => ?_)
        exact hQ _ _ _ _ _ dd_N_node_109 hf hat
      refine np_case hf (fun hx hf => ?_) (fun n4 hf => ?_)
      · refine np_tswI (tgt := 110) (off := 84) C dd_N_node_26 hx (by decide +kernel) (by decide +kernel) (by decide +kernel) (by decide) ?_
        refine lv_aload_n C.x C.b dd_N_node_110 rfl (lv_at hl 0 rfl) ?_
        refine np_get (v := .ref (q 15)) C i_N hat.1 0 (nc_o0 _) rfl 3 (by decide) tw_207 rfl rfl dd_N_node_111 ?_
        refine np_get (v := .ref (q 20)) C i_Tree hat.1 15 (nc_o15 _) rfl 7 (by decide) tw_153 rfl rfl dd_N_node_114 ?_
        refine lv_iload_n C.x C.b dd_N_node_117 rfl (lv_at hl 1 rfl) ?_
        refine np_iaload C hat.1 20 (nc_a20 _) 0 rfl (by decide) dd_N_node_118 hf (fun hf => ?_)
        exact hQ _ _ _ _ _ dd_N_node_119 hf hat
      refine np_tswO (tgt := 120) C dd_N_node_26 hR (by omega) (by decide) ?_
      refine lv_bipush (v := np_i (-3)) C.x C.b dd_N_node_120 (by decide +kernel) ?_
      exact hQ _ _ _ _ _ dd_N_node_122 hf hat
    · exact w_f_N_node_15 C hQ hno hlocks htr hT   _ _ _ _ hf hat (lv_sub hl [] rfl)
set_option maxHeartbeats 4000000 in
set_option maxRecDepth 100000 in
theorem c_N_node (l : Launch) (htr : l.stackTraces = false) {gA : Nat → Nat} {D : va_G} {q : Nat → Nat} {cA : Nat → ClassId} (x1 x2 : Int) (σ : np_S) : np_Mx gA l D np_cl (np_ty cA) (nc_wd q cA) yy_N_node (.code yy_N_node prog_1_method_11_code 3 (some .int) :: np_al) { frames := 6, cells := 1, slots := 6, locals := 82 } [.ref (q 0), .int (np_i x1), .int (np_i x2)] σ (f_N_node x1 x2 σ) :=
  np_mkx (by decide +kernel) (Nat.le_of_ble_eq_true rfl) (fun o p e R s m args below meth c Q A ls hf C hno hlocks hQ hT hat hl => w_f_N_node C hQ hno hlocks htr hT x1 x2 σ _ _ _ hf hat (lv_sub hl [0, 1, 2] rfl))
set_option maxHeartbeats 4000000 in
set_option maxRecDepth 100000 in
theorem w_f_N_print (C : np_Cx gA p R s m args c D np_cl (np_ty cA) A np_al "NotationParse" prog_1_method_12_code 1 { frames := 6, cells := 1, slots := 6, locals := 82 }) (hQ : ∀ (pc : Nat) (ls : Array Slot) (H : Heap) (locs : List Loc) (v : Int) {σ : np_S}, decode prog_1_method_12_code pc = .ok (.ireturn, 1) → some ((0 : Nat), v, σ) = some out → np_At D np_cl A (nc_wd q cA) s σ H locs → W p l e R s m args below meth c H locs 0 0 Q (F0 m pc ls [.int (np_i v)])) (hno : c.exceptionTable.isEmpty = true) (hlocks : meth.locks = false) (htr : l.stackTraces = false) (hT : ∀ (k : Nat) (Xn : String) {σ2 : np_S} {locs : List Loc}, np_xn (k + 1) = Xn → some (k + 1, (0 : Int), σ2) = some out → ∀ (U : State) (a : Nat) (ce : Cell), U.status = .running → Ended U below (.threw a) → s.WarmedH U.vm → s.sameButNew ({ U with vm := s.vm } : State) locs (0 + 1) (0 + 6) → np_At D np_cl A (nc_wd q cA) s σ2 U.heap locs → U.heap[a]? = some ce → s.vm.findClass Xn = some ce.cls → ce.vm = .none → Q U)   : ∀ (σ : np_S) (H : Heap) (locs : List Loc) (ls : Array Slot), f_N_print  σ = some out → np_At D np_cl A (nc_wd q cA) s σ H locs → lv_has ls 1 [(0, .ref (q 0))] → W p l e R s m args below meth c H locs 0 0 Q (F0 m 0 ls []) := by
  intro σ H locs ls hf hat hl
  unfold f_N_print at hf
  refine lv_aload_n C.x C.b dd_N_print_0 rfl (lv_at hl 0 rfl) ?_
  refine np_get (v := .ref (q 15)) C i_N hat.1 0 (nc_o0 _) rfl 3 (by decide) tw_207 rfl rfl dd_N_print_1 ?_
  refine np_get (v := .int (np_i (σ 15 2))) C i_Tree hat.1 15 (nc_o15 _) rfl 2 (by decide) tw_143 rfl rfl dd_N_print_4 ?_
  refine np_if_ne (tgt := 20) C dd_N_print_7 (by decide) hf (fun _ hf => ?_) (fun _ hf => ?_)
  · refine lv_aload_n C.x C.b dd_N_print_20 rfl (lv_at hl 0 rfl) ?_
    refine np_get (v := .ref (q 26)) C i_N hat.1 0 (nc_o0 _) rfl 4 (by decide) tw_208 rfl rfl dd_N_print_21 ?_
    refine lv_aload_n C.x C.b dd_N_print_24 rfl (lv_at hl 0 rfl) ?_
    refine np_get (v := .ref (q 6)) C i_N hat.1 0 (nc_o0 _) rfl 1 (by decide) tw_205 rfl rfl dd_N_print_25 ?_
    refine lv_aload_n C.x C.b dd_N_print_28 rfl (lv_at hl 0 rfl) ?_
    refine np_get (v := .ref (q 15)) C i_N hat.1 0 (nc_o0 _) rfl 3 (by decide) tw_207 rfl rfl dd_N_print_29 ?_
    refine np_callVi (As := []) (rest := [.ref (q 6), .ref (q 26)]) C (c_Tree_needlessBrackets l _) np_allgood tw_895 tw_896 tw_897 tw_6 tw_898 (nA := 0) (by decide +kernel) rfl ⟨rfl, rfl, Nat.le_of_ble_eq_true rfl, Nat.le_of_ble_eq_true rfl⟩ (va_recv C.k hat.1 (ci := 4) (q0 := 15) rfl (nc_o15 _)) hat rfl hl.1 (Nat.le_of_ble_eq_true rfl) dd_N_print_32 hf (fun o1 H locs hf hat => ?_)
    refine np_callVv (As := [.ref (q 6), .int (np_i o1.1)]) (rest := []) C (c_Output_writeWords l o1.1 _) np_allgood tw_903 tw_904 tw_905 tw_7 tw_906 (nA := 2) (by decide +kernel) rfl ⟨rfl, rfl, Nat.le_of_ble_eq_true rfl, Nat.le_of_ble_eq_true rfl⟩ (va_recv C.k hat.1 (ci := 5) (q0 := 26) rfl (nc_o26 _)) hat rfl hl.1 (Nat.le_of_ble_eq_true rfl) dd_N_print_35 hf (fun o2 H locs hf hat => ?_)
    refine lv_aload_n C.x C.b dd_N_print_38 rfl (lv_at hl 0 rfl) ?_
    refine np_get (v := .ref (q 26)) C i_N hat.1 0 (nc_o0 _) rfl 4 (by decide) tw_208 rfl rfl dd_N_print_39 ?_
    refine np_get (v := .int (np_i (o2.2 26 1))) C i_Output hat.1 26 (nc_o26 _) rfl 1 (by decide) tw_198 rfl rfl dd_N_print_42 ?_
    exact hQ _ _ _ _ _ dd_N_print_45 hf hat
  · exact np_throwN C np_allgood htr hat (tx := "there is no tree") (i0 := 169) (i1 := 188) (i2 := 173) (qa := gA (200 + 188)) at_NSE1 at_NSE2 tw_871 tw_26 tw_872 (C.en.2.2.2.2.2.2.1 (188, "there is no tree") (by decide +kernel)) dd_N_print_10 dd_N_print_13 dd_N_print_14 dd_N_print_16 dd_N_print_19 hl.1 hno ⟨Nat.le_of_ble_eq_true rfl, Nat.le_of_ble_eq_true rfl, Nat.le_of_ble_eq_true rfl, Nat.le_of_ble_eq_true rfl⟩ hlocks (hT 2 _ rfl hf)
set_option maxHeartbeats 4000000 in
set_option maxRecDepth 100000 in
theorem c_N_print (l : Launch) (htr : l.stackTraces = false) {gA : Nat → Nat} {D : va_G} {q : Nat → Nat} {cA : Nat → ClassId} (σ : np_S) : np_Mx gA l D np_cl (np_ty cA) (nc_wd q cA) yy_N_print (.code yy_N_print prog_1_method_12_code 1 (some .int) :: np_al) { frames := 6, cells := 1, slots := 6, locals := 82 } [.ref (q 0)] σ (f_N_print  σ) :=
  np_mkx (by decide +kernel) (Nat.le_of_ble_eq_true rfl) (fun o p e R s m args below meth c Q A ls hf C hno hlocks hQ hT hat hl => w_f_N_print C hQ hno hlocks htr hT  σ _ _ _ hf hat (lv_sub hl [0] rfl))
end NWN
