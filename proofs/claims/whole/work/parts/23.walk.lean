section NW3
variable {p : Program} {l : Launch} {e : Env} {R : Room} {s : State} {m : MethodId} {args : Array Value} {below : List Frame} {meth : Method} {c : Code} {Q : State → Prop} {D : va_G} {A : Nat → Prop} {q : Nat → Nat} {cA : Nat → ClassId} {out : np_O} {gA : Nat → Nat}
set_option maxHeartbeats 4000000 in
set_option maxRecDepth 100000 in
theorem w_f_Chart_isWhole_15 (C : np_Cx gA p R s m args c D np_cl (np_ty cA) A np_al "NotationParse$Chart" prog_2_method_3_code 2 { frames := 2, cells := 0, slots := 0, locals := 47 }) (hQ : ∀ (pc : Nat) (ls : Array Slot) (H : Heap) (locs : List Loc) (v : Int) {σ : np_S}, decode prog_2_method_3_code pc = .ok (.ireturn, 1) → np_ck (v = 0 ∨ v = 1) (some (v, σ)) = some out → np_At D np_cl A (nc_wd q cA) s σ H locs → W p l e R s m args below meth c H locs 0 0 Q (F0 m pc ls [.int (np_i v)]))   : ∀ (t0 : Int) (σ : np_S) (H : Heap) (locs : List Loc) (ls : Array Slot), f_Chart_isWhole_15  t0 σ = some out → np_At D np_cl A (nc_wd q cA) s σ H locs → lv_has ls 2 [] → W p l e R s m args below meth c H locs 0 0 Q (F0 m 15 ls [.int (np_i t0)]) := by
  intro t0 σ H locs ls hf hat hl
  unfold f_Chart_isWhole_15 at hf
  exact hQ _ _ _ _ _ dd_Chart_isWhole_15 hf hat
set_option maxHeartbeats 4000000 in
set_option maxRecDepth 100000 in
theorem w_f_Chart_isWhole (C : np_Cx gA p R s m args c D np_cl (np_ty cA) A np_al "NotationParse$Chart" prog_2_method_3_code 2 { frames := 2, cells := 0, slots := 0, locals := 47 }) (hQ : ∀ (pc : Nat) (ls : Array Slot) (H : Heap) (locs : List Loc) (v : Int) {σ : np_S}, decode prog_2_method_3_code pc = .ok (.ireturn, 1) → np_ck (v = 0 ∨ v = 1) (some (v, σ)) = some out → np_At D np_cl A (nc_wd q cA) s σ H locs → W p l e R s m args below meth c H locs 0 0 Q (F0 m pc ls [.int (np_i v)]))   : ∀ (x1 : Int) (σ : np_S) (H : Heap) (locs : List Loc) (ls : Array Slot), f_Chart_isWhole  x1 σ = some out → np_At D np_cl A (nc_wd q cA) s σ H locs → lv_has ls 2 [(0, .ref (q 11)), (1, .int (np_i x1))] → W p l e R s m args below meth c H locs 0 0 Q (F0 m 0 ls []) := by
  intro x1 σ H locs ls hf hat hl
  unfold f_Chart_isWhole at hf
  refine lv_aload_n C.x C.b dd_Chart_isWhole_0 rfl (lv_at hl 0 rfl) ?_
  refine lv_iconst (v := np_i 0) C.x C.b dd_Chart_isWhole_1 rfl ?_
  refine lv_iload_n C.x C.b dd_Chart_isWhole_2 rfl (lv_at hl 1 rfl) ?_
  refine np_callVi (As := [.int (np_i 0), .int (np_i x1)]) (rest := []) C (c_Chart_highestTerm l 0 x1 _) np_allgood tw_771 tw_773 tp_10 tw_5 tw_774 (nA := 2) (by decide +kernel) rfl ⟨rfl, rfl, Nat.le_of_ble_eq_true rfl, Nat.le_of_ble_eq_true rfl⟩ (va_recv C.k hat.1 (ci := 3) (q0 := 11) rfl (nc_o11 _)) hat rfl hl.1 (Nat.le_of_ble_eq_true rfl) dd_Chart_isWhole_3 hf (fun o1 H locs hf hat => ?_)
  refine lv_iconst (v := np_i (-1)) C.x C.b dd_Chart_isWhole_6 rfl ?_
  refine np_icmp_eq (tgt := 14) C dd_Chart_isWhole_7 (by decide) hf (fun _ hf => ?_) (fun _ hf => ?_)
  · refine lv_iconst (v := np_i 0) C.x C.b dd_Chart_isWhole_14 rfl ?_
    exact w_f_Chart_isWhole_15 C hQ  _ _ _ _ _ hf hat (lv_sub hl [] rfl)
  · refine lv_iconst (v := np_i 1) C.x C.b dd_Chart_isWhole_10 rfl ?_
    refine lv_goto (tgt := 15) C.x C.b dd_Chart_isWhole_11 (by decide) ?_
    exact w_f_Chart_isWhole_15 C hQ  _ _ _ _ _ hf hat (lv_sub hl [] rfl)
set_option maxHeartbeats 4000000 in
set_option maxRecDepth 100000 in
theorem c_Chart_isWhole (l : Launch) {gA : Nat → Nat} {D : va_G} {q : Nat → Nat} {cA : Nat → ClassId} (x1 : Int) (σ : np_S) : np_Mi gA l D np_cl (np_ty cA) (nc_wd q cA) yy_Chart_isWhole (.code yy_Chart_isWhole prog_2_method_3_code 2 (some .boolean) :: np_al) { frames := 2, cells := 0, slots := 0, locals := 47 } [.ref (q 11), .int (np_i x1)] σ (f_Chart_isWhole x1 σ) :=
  np_mkz (by decide +kernel) (Nat.le_of_ble_eq_true rfl) (fun o p e R s m args below meth c Q A ls hf C hQ hat hl => w_f_Chart_isWhole C hQ x1 σ _ _ _ hf hat (lv_sub hl [0, 1] rfl))
set_option maxHeartbeats 4000000 in
set_option maxRecDepth 100000 in
theorem w_f_N_noteFault (C : np_Cx gA p R s m args c D np_cl (np_ty cA) A np_al "NotationParse" prog_1_method_9_code 3 { frames := 0, cells := 0, slots := 0, locals := 0 }) (hQ : ∀ (pc : Nat) (ls : Array Slot) (H : Heap) (locs : List Loc) {σ : np_S}, decode prog_1_method_9_code pc = .ok (.return_, 1) → some ((0 : Int), σ) = some out → np_At D np_cl A (nc_wd q cA) s σ H locs → W p l e R s m args below meth c H locs 0 0 Q (F0 m pc ls []))   : ∀ (x1 x2 : Int) (σ : np_S) (H : Heap) (locs : List Loc) (ls : Array Slot), f_N_noteFault  x1 x2 σ = some out → np_At D np_cl A (nc_wd q cA) s σ H locs → lv_has ls 3 [(0, .ref (q 0)), (1, .int (np_i x1)), (2, .int (np_i x2))] → W p l e R s m args below meth c H locs 0 0 Q (F0 m 0 ls []) := by
  intro x1 x2 σ H locs ls hf hat hl
  unfold f_N_noteFault at hf
  refine lv_aload_n C.x C.b dd_N_noteFault_0 rfl (lv_at hl 0 rfl) ?_
  refine lv_iload_n C.x C.b dd_N_noteFault_1 rfl (lv_at hl 1 rfl) ?_
  refine np_put C i_N t_N tok_N n_N hat 0 (nc_o0 _) rfl 5 (by decide) tw_209 rfl rfl (by decide +kernel) (np_narI x1) (np_fitI x1) (Nat.le_of_ble_eq_true rfl) (nc_s0_5 _ _) dd_N_noteFault_2 (fun H locs hat => ?_)
  refine lv_aload_n C.x C.b dd_N_noteFault_5 rfl (lv_at hl 0 rfl) ?_
  refine lv_iload_n C.x C.b dd_N_noteFault_6 rfl (lv_at hl 2 rfl) ?_
  refine np_put C i_N t_N tok_N n_N hat 0 (nc_o0 _) rfl 6 (by decide) tw_210 rfl rfl (by decide +kernel) (np_narI x2) (np_fitI x2) (Nat.le_of_ble_eq_true rfl) (nc_s0_6 _ _) dd_N_noteFault_7 (fun H locs hat => ?_)
  exact hQ _ _ _ _ dd_N_noteFault_10 hf hat
set_option maxHeartbeats 4000000 in
set_option maxRecDepth 100000 in
theorem c_N_noteFault (l : Launch) {gA : Nat → Nat} {D : va_G} {q : Nat → Nat} {cA : Nat → ClassId} (x1 x2 : Int) (σ : np_S) : np_Mv gA l D np_cl (np_ty cA) (nc_wd q cA) yy_N_noteFault (.code yy_N_noteFault prog_1_method_9_code 3 none :: np_al) { frames := 0, cells := 0, slots := 0, locals := 0 } [.ref (q 0), .int (np_i x1), .int (np_i x2)] σ (f_N_noteFault x1 x2 σ) :=
  np_mkv (by decide +kernel) (Nat.le_of_ble_eq_true rfl) (fun o p e R s m args below meth c Q A ls hf C hQ hat hl => w_f_N_noteFault C hQ x1 x2 σ _ _ _ hf hat (lv_sub hl [0, 1, 2] rfl))
set_option maxHeartbeats 4000000 in
set_option maxRecDepth 100000 in
theorem w_f_N_findFault_114 (C : np_Cx gA p R s m args c D np_cl (np_ty cA) A np_al "NotationParse" prog_1_method_8_code 2 { frames := 4, cells := 0, slots := 0, locals := 93 }) (hQ : ∀ (pc : Nat) (ls : Array Slot) (H : Heap) (locs : List Loc) {σ : np_S}, decode prog_1_method_8_code pc = .ok (.return_, 1) → some ((0 : Int), σ) = some out → np_At D np_cl A (nc_wd q cA) s σ H locs → W p l e R s m args below meth c H locs 0 0 Q (F0 m pc ls []))   : ∀ (σ : np_S) (H : Heap) (locs : List Loc) (ls : Array Slot), f_N_findFault_114  σ = some out → np_At D np_cl A (nc_wd q cA) s σ H locs → lv_has ls 2 [] → W p l e R s m args below meth c H locs 0 0 Q (F0 m 114 ls []) := by
  intro σ H locs ls hf hat hl
  unfold f_N_findFault_114 at hf
  exact hQ _ _ _ _ dd_N_findFault_114 hf hat
set_option maxHeartbeats 4000000 in
set_option maxRecDepth 100000 in
theorem w_f_N_findFault (C : np_Cx gA p R s m args c D np_cl (np_ty cA) A np_al "NotationParse" prog_1_method_8_code 2 { frames := 4, cells := 0, slots := 0, locals := 93 }) (hQ : ∀ (pc : Nat) (ls : Array Slot) (H : Heap) (locs : List Loc) {σ : np_S}, decode prog_1_method_8_code pc = .ok (.return_, 1) → some ((0 : Int), σ) = some out → np_At D np_cl A (nc_wd q cA) s σ H locs → W p l e R s m args below meth c H locs 0 0 Q (F0 m pc ls []))   : ∀ (σ : np_S) (H : Heap) (locs : List Loc) (ls : Array Slot), f_N_findFault  σ = some out → np_At D np_cl A (nc_wd q cA) s σ H locs → lv_has ls 2 [(0, .ref (q 0))] → W p l e R s m args below meth c H locs 0 0 Q (F0 m 0 ls []) := by
  intro σ H locs ls hf hat hl
  unfold f_N_findFault at hf
  refine lv_aload_n C.x C.b dd_N_findFault_0 rfl (lv_at hl 0 rfl) ?_
  refine np_get (v := .ref (q 11)) C i_N hat.1 0 (nc_o0 _) rfl 2 (by decide) tw_206 rfl rfl dd_N_findFault_1 ?_
  refine lv_aload_n C.x C.b dd_N_findFault_4 rfl (lv_at hl 0 rfl) ?_
  refine np_get (v := .ref (q 6)) C i_N hat.1 0 (nc_o0 _) rfl 1 (by decide) tw_205 rfl rfl dd_N_findFault_5 ?_
  refine np_get (v := .ref (q 9)) C i_Text hat.1 6 (nc_o6 _) rfl 3 (by decide) tw_91 rfl rfl dd_N_findFault_8 ?_
  refine lv_aload_n C.x C.b dd_N_findFault_11 rfl (lv_at hl 0 rfl) ?_
  refine np_get (v := .ref (q 6)) C i_N hat.1 0 (nc_o0 _) rfl 1 (by decide) tw_205 rfl rfl dd_N_findFault_12 ?_
  refine np_get (v := .int (np_i (σ 6 5))) C i_Text hat.1 6 (nc_o6 _) rfl 5 (by decide) tw_96 rfl rfl dd_N_findFault_15 ?_
  refine np_callVi (As := [.ref (q 9), .int (np_i (σ 6 5))]) (rest := []) C (c_Chart_follow l (σ 6 5) _) np_allgood tw_745 tw_746 tw_747 tw_5 tw_748 (nA := 2) (by decide +kernel) rfl ⟨rfl, rfl, Nat.le_of_ble_eq_true rfl, Nat.le_of_ble_eq_true rfl⟩ (va_recv C.k hat.1 (ci := 3) (q0 := 11) rfl (nc_o11 _)) hat rfl hl.1 (Nat.le_of_ble_eq_true rfl) dd_N_findFault_18 hf (fun o1 H locs hf hat => ?_)
  refine lv_istore_n (lv' := [(1, .int (np_i o1.1)), (0, .ref (q 0))]) C.x C.b dd_N_findFault_21 rfl hl (by decide) rfl (fun ls hl => ?_)
  refine lv_iload_n C.x C.b dd_N_findFault_22 rfl (lv_at hl 0 rfl) ?_
  refine lv_aload_n C.x C.b dd_N_findFault_23 rfl (lv_at hl 1 rfl) ?_
  refine np_get (v := .ref (q 6)) C i_N hat.1 0 (nc_o0 _) rfl 1 (by decide) tw_205 rfl rfl dd_N_findFault_24 ?_
  refine np_get (v := .int (np_i (o1.2 6 5))) C i_Text hat.1 6 (nc_o6 _) rfl 5 (by decide) tw_96 rfl rfl dd_N_findFault_27 ?_
  refine np_icmp_ge (tgt := 50) C dd_N_findFault_30 (by decide) hf (fun _ hf => ?_) (fun _ hf => ?_)
  · refine lv_aload_n C.x C.b dd_N_findFault_50 rfl (lv_at hl 1 rfl) ?_
    refine np_get (v := .ref (q 6)) C i_N hat.1 0 (nc_o0 _) rfl 1 (by decide) tw_205 rfl rfl dd_N_findFault_51 ?_
    refine np_get (v := .int (np_i (o1.2 6 6))) C i_Text hat.1 6 (nc_o6 _) rfl 6 (by decide) tw_98 rfl rfl dd_N_findFault_54 ?_
    refine lv_iconst (v := np_i (-1)) C.x C.b dd_N_findFault_57 rfl ?_
    refine np_icmp_eq (tgt := 76) C dd_N_findFault_58 (by decide) hf (fun _ hf => ?_) (fun _ hf => ?_)
    · refine lv_aload_n C.x C.b dd_N_findFault_76 rfl (lv_at hl 1 rfl) ?_
      refine np_get (v := .ref (q 11)) C i_N hat.1 0 (nc_o0 _) rfl 2 (by decide) tw_206 rfl rfl dd_N_findFault_77 ?_
      refine lv_aload_n C.x C.b dd_N_findFault_80 rfl (lv_at hl 1 rfl) ?_
      refine np_get (v := .ref (q 6)) C i_N hat.1 0 (nc_o0 _) rfl 1 (by decide) tw_205 rfl rfl dd_N_findFault_81 ?_
      refine np_get (v := .int (np_i (o1.2 6 5))) C i_Text hat.1 6 (nc_o6 _) rfl 5 (by decide) tw_96 rfl rfl dd_N_findFault_84 ?_
      refine np_callVi (As := [.int (np_i (o1.2 6 5))]) (rest := []) C (c_Chart_isWhole l (o1.2 6 5) _) np_allgood tw_795 tw_796 tw_797 tw_5 tw_798 (nA := 1) (by decide +kernel) rfl ⟨rfl, rfl, Nat.le_of_ble_eq_true rfl, Nat.le_of_ble_eq_true rfl⟩ (va_recv C.k hat.1 (ci := 3) (q0 := 11) rfl (nc_o11 _)) hat rfl hl.1 (Nat.le_of_ble_eq_true rfl) dd_N_findFault_87 hf (fun o2 H locs hf hat => ?_)
      refine np_if_ne (tgt := 108) C dd_N_findFault_90 (by decide) hf (fun _ hf => ?_) (fun _ hf => ?_)
      · refine lv_aload_n C.x C.b dd_N_findFault_108 rfl (lv_at hl 1 rfl) ?_
        refine lv_iconst (v := np_i 0) C.x C.b dd_N_findFault_109 rfl ?_
        refine lv_iconst (v := np_i (-1)) C.x C.b dd_N_findFault_110 rfl ?_
        refine np_callVv (As := [.int (np_i 0), .int (np_i ((-1)))]) (rest := []) C (c_N_noteFault l 0 ((-1)) _) np_allgood tw_791 tw_793 tp_14 tw_1 tw_794 (nA := 2) (by decide +kernel) rfl ⟨rfl, rfl, Nat.le_of_ble_eq_true rfl, Nat.le_of_ble_eq_true rfl⟩ (va_recv C.k hat.1 (ci := 0) (q0 := 0) rfl (nc_o0 _)) hat rfl hl.1 (Nat.le_of_ble_eq_true rfl) dd_N_findFault_111 hf (fun o3 H locs hf hat => ?_)
        exact w_f_N_findFault_114 C hQ   _ _ _ _ hf hat (lv_sub hl [] rfl)
      · refine lv_aload_n C.x C.b dd_N_findFault_93 rfl (lv_at hl 1 rfl) ?_
        refine lv_iconst (v := np_i 1) C.x C.b dd_N_findFault_94 rfl ?_
        refine lv_aload_n C.x C.b dd_N_findFault_95 rfl (lv_at hl 1 rfl) ?_
        refine np_get (v := .ref (q 6)) C i_N hat.1 0 (nc_o0 _) rfl 1 (by decide) tw_205 rfl rfl dd_N_findFault_96 ?_
        refine np_get (v := .int (np_i (o2.2 6 1))) C i_Text hat.1 6 (nc_o6 _) rfl 1 (by decide) tw_87 rfl rfl dd_N_findFault_99 ?_
        refine np_callVv (As := [.int (np_i 1), .int (np_i (o2.2 6 1))]) (rest := []) C (c_N_noteFault l 1 (o2.2 6 1) _) np_allgood tw_791 tw_793 tp_14 tw_1 tw_794 (nA := 2) (by decide +kernel) rfl ⟨rfl, rfl, Nat.le_of_ble_eq_true rfl, Nat.le_of_ble_eq_true rfl⟩ (va_recv C.k hat.1 (ci := 0) (q0 := 0) rfl (nc_o0 _)) hat rfl hl.1 (Nat.le_of_ble_eq_true rfl) dd_N_findFault_102 hf (fun o4 H locs hf hat => ?_)
        refine lv_goto (tgt := 114) C.x C.b dd_N_findFault_105 (by decide) ?_
        exact w_f_N_findFault_114 C hQ   _ _ _ _ hf hat (lv_sub hl [] rfl)
    · refine lv_aload_n C.x C.b dd_N_findFault_61 rfl (lv_at hl 1 rfl) ?_
      refine lv_iconst (v := np_i 2) C.x C.b dd_N_findFault_62 rfl ?_
      refine lv_aload_n C.x C.b dd_N_findFault_63 rfl (lv_at hl 1 rfl) ?_
      refine np_get (v := .ref (q 6)) C i_N hat.1 0 (nc_o0 _) rfl 1 (by decide) tw_205 rfl rfl dd_N_findFault_64 ?_
      refine np_get (v := .int (np_i (o1.2 6 6))) C i_Text hat.1 6 (nc_o6 _) rfl 6 (by decide) tw_98 rfl rfl dd_N_findFault_67 ?_
      refine np_callVv (As := [.int (np_i 2), .int (np_i (o1.2 6 6))]) (rest := []) C (c_N_noteFault l 2 (o1.2 6 6) _) np_allgood tw_791 tw_793 tp_14 tw_1 tw_794 (nA := 2) (by decide +kernel) rfl ⟨rfl, rfl, Nat.le_of_ble_eq_true rfl, Nat.le_of_ble_eq_true rfl⟩ (va_recv C.k hat.1 (ci := 0) (q0 := 0) rfl (nc_o0 _)) hat rfl hl.1 (Nat.le_of_ble_eq_true rfl) dd_N_findFault_70 hf (fun o5 H locs hf hat => ?_)
      refine lv_goto (tgt := 114) C.x C.b dd_N_findFault_73 (by decide) ?_
      exact w_f_N_findFault_114 C hQ   _ _ _ _ hf hat (lv_sub hl [] rfl)
  · refine lv_aload_n C.x C.b dd_N_findFault_33 rfl (lv_at hl 1 rfl) ?_
    refine lv_iconst (v := np_i 1) C.x C.b dd_N_findFault_34 rfl ?_
    refine lv_aload_n C.x C.b dd_N_findFault_35 rfl (lv_at hl 1 rfl) ?_
    refine np_get (v := .ref (q 6)) C i_N hat.1 0 (nc_o0 _) rfl 1 (by decide) tw_205 rfl rfl dd_N_findFault_36 ?_
    refine np_get (v := .ref (q 10)) C i_Text hat.1 6 (nc_o6 _) rfl 4 (by decide) tw_93 rfl rfl dd_N_findFault_39 ?_
    refine lv_iload_n C.x C.b dd_N_findFault_42 rfl (lv_at hl 0 rfl) ?_
    refine np_iaload C hat.1 10 (nc_a10 _) 0 rfl (by decide) dd_N_findFault_43 hf (fun hf => ?_)
    refine np_callVv (As := [.int (np_i 1), .int (np_i (o1.2 10 o1.1))]) (rest := []) C (c_N_noteFault l 1 (o1.2 10 o1.1) _) np_allgood tw_791 tw_793 tp_14 tw_1 tw_794 (nA := 2) (by decide +kernel) rfl ⟨rfl, rfl, Nat.le_of_ble_eq_true rfl, Nat.le_of_ble_eq_true rfl⟩ (va_recv C.k hat.1 (ci := 0) (q0 := 0) rfl (nc_o0 _)) hat rfl hl.1 (Nat.le_of_ble_eq_true rfl) dd_N_findFault_44 hf (fun o6 H locs hf hat => ?_)
    refine lv_goto (tgt := 114) C.x C.b dd_N_findFault_47 (by decide) ?_
    exact w_f_N_findFault_114 C hQ   _ _ _ _ hf hat (lv_sub hl [] rfl)
set_option maxHeartbeats 4000000 in
set_option maxRecDepth 100000 in
theorem c_N_findFault (l : Launch) {gA : Nat → Nat} {D : va_G} {q : Nat → Nat} {cA : Nat → ClassId} (σ : np_S) : np_Mv gA l D np_cl (np_ty cA) (nc_wd q cA) yy_N_findFault (.code yy_N_findFault prog_1_method_8_code 2 none :: np_al) { frames := 4, cells := 0, slots := 0, locals := 93 } [.ref (q 0)] σ (f_N_findFault  σ) :=
  np_mkv (by decide +kernel) (Nat.le_of_ble_eq_true rfl) (fun o p e R s m args below meth c Q A ls hf C hQ hat hl => w_f_N_findFault C hQ  σ _ _ _ hf hat (lv_sub hl [0] rfl))
set_option maxHeartbeats 4000000 in
set_option maxRecDepth 100000 in
theorem w_f_Chart_cell (C : np_Cx gA p R s m args c D np_cl (np_ty cA) A np_al "NotationParse$Chart" prog_2_method_20_code 4 { frames := 0, cells := 0, slots := 0, locals := 0 }) (hQ : ∀ (pc : Nat) (ls : Array Slot) (H : Heap) (locs : List Loc) (v : Int) {σ : np_S}, decode prog_2_method_20_code pc = .ok (.ireturn, 1) → some (v, σ) = some out → np_At D np_cl A (nc_wd q cA) s σ H locs → W p l e R s m args below meth c H locs 0 0 Q (F0 m pc ls [.int (np_i v)]))   : ∀ (x1 x2 x3 : Int) (σ : np_S) (H : Heap) (locs : List Loc) (ls : Array Slot), f_Chart_cell  x1 x2 x3 σ = some out → np_At D np_cl A (nc_wd q cA) s σ H locs → lv_has ls 4 [(1, .int (np_i x1)), (2, .int (np_i x2)), (3, .int (np_i x3))] → W p l e R s m args below meth c H locs 0 0 Q (F0 m 0 ls []) := by
  intro x1 x2 x3 σ H locs ls hf hat hl
  unfold f_Chart_cell at hf
  refine lv_iload_n C.x C.b dd_Chart_cell_0 rfl (lv_at hl 1 rfl) ?_
  refine lv_iload_n C.x C.b dd_Chart_cell_1 rfl (lv_at hl 1 rfl) ?_
  refine lv_iconst (v := np_i 1) C.x C.b dd_Chart_cell_2 rfl ?_
  refine np_isub C dd_Chart_cell_3 ?_
  refine np_imul C dd_Chart_cell_4 ?_
  refine lv_iconst (v := np_i 2) C.x C.b dd_Chart_cell_5 rfl ?_
  refine np_idiv C dd_Chart_cell_6 hf (fun hf => ?_)
  refine lv_iload_n C.x C.b dd_Chart_cell_7 rfl (lv_at hl 0 rfl) ?_
  refine np_iadd C dd_Chart_cell_8 ?_
  refine lv_bipush (v := np_i 11) C.x C.b dd_Chart_cell_9 (by decide +kernel) ?_
  refine np_imul C dd_Chart_cell_11 ?_
  refine lv_iload_n C.x C.b dd_Chart_cell_12 rfl (lv_at hl 2 rfl) ?_
  refine np_iadd C dd_Chart_cell_13 ?_
  exact hQ _ _ _ _ _ dd_Chart_cell_14 hf hat
set_option maxHeartbeats 4000000 in
set_option maxRecDepth 100000 in
theorem c_Chart_cell (l : Launch) {gA : Nat → Nat} {D : va_G} {q : Nat → Nat} {cA : Nat → ClassId} (x1 x2 x3 : Int) (σ : np_S) : np_Mi gA l D np_cl (np_ty cA) (nc_wd q cA) yy_Chart_cell (.code yy_Chart_cell prog_2_method_20_code 4 (some .int) :: np_al) { frames := 0, cells := 0, slots := 0, locals := 0 } [.ref (q 11), .int (np_i x1), .int (np_i x2), .int (np_i x3)] σ (f_Chart_cell x1 x2 x3 σ) :=
  np_mki (by decide +kernel) (Nat.le_of_ble_eq_true rfl) (fun o p e R s m args below meth c Q A ls hf C hQ hat hl => w_f_Chart_cell C hQ x1 x2 x3 σ _ _ _ hf hat (lv_sub hl [1, 2, 3] rfl))
set_option maxHeartbeats 4000000 in
set_option maxRecDepth 100000 in
theorem w_f_Chart_addTrees (C : np_Cx gA p R s m args c D np_cl (np_ty cA) A np_al "NotationParse$Chart" prog_2_method_18_code 3 { frames := 1, cells := 0, slots := 0, locals := 21 }) (hQ : ∀ (pc : Nat) (ls : Array Slot) (H : Heap) (locs : List Loc) {σ : np_S}, decode prog_2_method_18_code pc = .ok (.return_, 1) → some ((0 : Int), σ) = some out → np_At D np_cl A (nc_wd q cA) s σ H locs → W p l e R s m args below meth c H locs 0 0 Q (F0 m pc ls []))   : ∀ (x1 x2 : Int) (σ : np_S) (H : Heap) (locs : List Loc) (ls : Array Slot), f_Chart_addTrees  x1 x2 σ = some out → np_At D np_cl A (nc_wd q cA) s σ H locs → lv_has ls 3 [(0, .ref (q 11)), (1, .int (np_i x1)), (2, .int (np_i x2))] → W p l e R s m args below meth c H locs 0 0 Q (F0 m 0 ls []) := by
  intro x1 x2 σ H locs ls hf hat hl
  unfold f_Chart_addTrees at hf
  refine lv_aload_n C.x C.b dd_Chart_addTrees_0 rfl (lv_at hl 0 rfl) ?_
  refine np_get (v := .ref (q 14)) C i_Chart hat.1 11 (nc_o11 _) rfl 3 (by decide) tw_124 rfl rfl dd_Chart_addTrees_1 ?_
  refine lv_iload_n C.x C.b dd_Chart_addTrees_4 rfl (lv_at hl 1 rfl) ?_
  refine lv_aload_n C.x C.b dd_Chart_addTrees_5 rfl (lv_at hl 0 rfl) ?_
  refine np_get (v := .ref (q 14)) C i_Chart hat.1 11 (nc_o11 _) rfl 3 (by decide) tw_124 rfl rfl dd_Chart_addTrees_6 ?_
  refine lv_iload_n C.x C.b dd_Chart_addTrees_9 rfl (lv_at hl 1 rfl) ?_
  refine np_iaload C hat.1 14 (nc_a14 _) 0 rfl (by decide) dd_Chart_addTrees_10 hf (fun hf => ?_)
  refine lv_iload_n C.x C.b dd_Chart_addTrees_11 rfl (lv_at hl 2 rfl) ?_
  refine np_iadd C dd_Chart_addTrees_12 ?_
  refine np_ldc (v := 1000000) C tw_832 dd_Chart_addTrees_13 ?_
  refine np_mmin C tw_833 tw_293 tw_17 tw_294 (Nat.le_of_ble_eq_true rfl) (Nat.le_of_ble_eq_true rfl) hl.1 dd_Chart_addTrees_15 hf (fun hf => ?_)
  refine np_iastore C hat 14 (nc_a14 _) 0 rfl (by decide) (nc_s14 _ _ _) dd_Chart_addTrees_18 hf (fun H locs hat hf => ?_)
  exact hQ _ _ _ _ dd_Chart_addTrees_19 hf hat
set_option maxHeartbeats 4000000 in
set_option maxRecDepth 100000 in
theorem c_Chart_addTrees (l : Launch) {gA : Nat → Nat} {D : va_G} {q : Nat → Nat} {cA : Nat → ClassId} (x1 x2 : Int) (σ : np_S) : np_Mv gA l D np_cl (np_ty cA) (nc_wd q cA) yy_Chart_addTrees (.code yy_Chart_addTrees prog_2_method_18_code 3 none :: np_al) { frames := 1, cells := 0, slots := 0, locals := 21 } [.ref (q 11), .int (np_i x1), .int (np_i x2)] σ (f_Chart_addTrees x1 x2 σ) :=
  np_mkv (by decide +kernel) (Nat.le_of_ble_eq_true rfl) (fun o p e R s m args below meth c Q A ls hf C hQ hat hl => w_f_Chart_addTrees C hQ x1 x2 σ _ _ _ hf hat (lv_sub hl [0, 1, 2] rfl))
set_option maxHeartbeats 4000000 in
set_option maxRecDepth 100000 in
theorem w_f_Chart_sumTerms_109 (C : np_Cx gA p R s m args c D np_cl (np_ty cA) A np_al "NotationParse$Chart" prog_2_method_17_code 6 { frames := 2, cells := 0, slots := 0, locals := 43 }) (hQ : ∀ (pc : Nat) (ls : Array Slot) (H : Heap) (locs : List Loc) {σ : np_S}, decode prog_2_method_17_code pc = .ok (.return_, 1) → some ((0 : Int), σ) = some out → np_At D np_cl A (nc_wd q cA) s σ H locs → W p l e R s m args below meth c H locs 0 0 Q (F0 m pc ls []))   : ∀ (n : Nat), ∀ (x3 x4 : Int) (σ : np_S) (H : Heap) (locs : List Loc) (ls : Array Slot), f_Chart_sumTerms_109  n x3 x4 σ = some out → np_At D np_cl A (nc_wd q cA) s σ H locs → lv_has ls 6 [(0, .ref (q 11)), (3, .int (np_i x3)), (4, .int (np_i x4))] → W p l e R s m args below meth c H locs 0 0 Q (F0 m 109 ls []) := by
  intro n
  induction n with
  | zero => intro x3 x4 σ H locs ls hf; cases hf
  | succ n ih =>
    intro x3 x4 σ H locs ls hf hat hl
    have h109 := ih
    have hf : f_Chart_sumTerms_109_b  (fun x3 x4 σ => f_Chart_sumTerms_109  n x3 x4 σ) x3 x4 σ = some out := hf
    unfold f_Chart_sumTerms_109_b at hf
    refine lv_iload C.x C.b dd_Chart_sumTerms_109 (lv_at hl 2 rfl) ?_
    refine np_if_lt (tgt := 139) C dd_Chart_sumTerms_111 (by decide) hf (fun _ hf => ?_) (fun _ hf => ?_)
    · exact hQ _ _ _ _ dd_Chart_sumTerms_139 hf hat
    · refine lv_aload_n C.x C.b dd_Chart_sumTerms_114 rfl (lv_at hl 0 rfl) ?_
      refine lv_iload_n C.x C.b dd_Chart_sumTerms_115 rfl (lv_at hl 1 rfl) ?_
      refine lv_iload C.x C.b dd_Chart_sumTerms_116 (lv_at hl 2 rfl) ?_
      refine np_iadd C dd_Chart_sumTerms_118 ?_
      refine lv_aload_n C.x C.b dd_Chart_sumTerms_119 rfl (lv_at hl 0 rfl) ?_
      refine np_get (v := .ref (q 14)) C i_Chart hat.1 11 (nc_o11 _) rfl 3 (by decide) tw_124 rfl rfl dd_Chart_sumTerms_120 ?_
      refine lv_iload_n C.x C.b dd_Chart_sumTerms_123 rfl (lv_at hl 1 rfl) ?_
      refine lv_iload C.x C.b dd_Chart_sumTerms_124 (lv_at hl 2 rfl) ?_
      refine np_iadd C dd_Chart_sumTerms_126 ?_
      refine lv_iconst (v := np_i 1) C.x C.b dd_Chart_sumTerms_127 rfl ?_
      refine np_iadd C dd_Chart_sumTerms_128 ?_
      refine np_iaload C hat.1 14 (nc_a14 _) 0 rfl (by decide) dd_Chart_sumTerms_129 hf (fun hf => ?_)
      refine np_callVv (As := [.int (np_i (x3 + x4)), .int (np_i (σ 14 ((x3 + x4) + 1)))]) (rest := []) C (c_Chart_addTrees l (x3 + x4) (σ 14 ((x3 + x4) + 1)) _) np_allgood tw_828 tw_830 tp_20 tw_5 tw_831 (nA := 2) (by decide +kernel) rfl ⟨rfl, rfl, Nat.le_of_ble_eq_true rfl, Nat.le_of_ble_eq_true rfl⟩ (va_recv C.k hat.1 (ci := 3) (q0 := 11) rfl (nc_o11 _)) hat rfl hl.1 (Nat.le_of_ble_eq_true rfl) dd_Chart_sumTerms_130 hf (fun o1 H locs hf hat => ?_)
      refine lv_iinc (v := np_i (x4 + (-1))) (lv' := [(4, .int (np_i (x4 + (-1)))), (0, .ref (q 11)), (3, .int (np_i x3))]) C.x C.b dd_Chart_sumTerms_133 hl (k := 2) rfl (np_inc _ _) (by decide) rfl (fun ls hl => ?_)
      refine lv_goto (tgt := 109) C.x C.b dd_Chart_sumTerms_136 (by decide) ?_
      exact h109 _ _ _ _ _ _ hf hat (lv_sub hl [1, 2, 0] rfl)
set_option maxHeartbeats 4000000 in
set_option maxRecDepth 100000 in
theorem w_f_Chart_sumTerms_99 (C : np_Cx gA p R s m args c D np_cl (np_ty cA) A np_al "NotationParse$Chart" prog_2_method_17_code 6 { frames := 2, cells := 0, slots := 0, locals := 43 }) (hQ : ∀ (pc : Nat) (ls : Array Slot) (H : Heap) (locs : List Loc) {σ : np_S}, decode prog_2_method_17_code pc = .ok (.return_, 1) → some ((0 : Int), σ) = some out → np_At D np_cl A (nc_wd q cA) s σ H locs → W p l e R s m args below meth c H locs 0 0 Q (F0 m pc ls [])) {k37 : (Int → Int → Int → Int → np_S → Option np_O)} (h37 : ∀ (x1 x2 x3 x4 : Int) (σ : np_S) (H : Heap) (locs : List Loc) (ls : Array Slot), k37 x1 x2 x3 x4 σ = some out → np_At D np_cl A (nc_wd q cA) s σ H locs → lv_has ls 6 [(0, .ref (q 11)), (1, .int (np_i x1)), (2, .int (np_i x2)), (3, .int (np_i x3)), (4, .int (np_i x4))] → W p l e R s m args below meth c H locs 0 0 Q (F0 m 37 ls [])) : ∀ (x1 x2 x3 x4 : Int) (σ : np_S) (H : Heap) (locs : List Loc) (ls : Array Slot), f_Chart_sumTerms_99 k37 x1 x2 x3 x4 σ = some out → np_At D np_cl A (nc_wd q cA) s σ H locs → lv_has ls 6 [(0, .ref (q 11)), (1, .int (np_i x1)), (2, .int (np_i x2)), (3, .int (np_i x3)), (4, .int (np_i x4))] → W p l e R s m args below meth c H locs 0 0 Q (F0 m 99 ls []) := by
  intro x1 x2 x3 x4 σ H locs ls hf hat hl
  unfold f_Chart_sumTerms_99 at hf
  refine lv_iinc (v := np_i (x4 + 1)) (lv' := [(4, .int (np_i (x4 + 1))), (0, .ref (q 11)), (1, .int (np_i x1)), (2, .int (np_i x2)), (3, .int (np_i x3))]) C.x C.b dd_Chart_sumTerms_99 hl (k := 4) rfl (np_inc _ _) (by decide) rfl (fun ls hl => ?_)
  refine lv_goto (tgt := 37) C.x C.b dd_Chart_sumTerms_102 (by decide) ?_
  exact h37 _ _ _ _ _ _ _ _ hf hat (lv_sub hl [1, 2, 3, 4, 0] rfl)
set_option maxHeartbeats 4000000 in
set_option maxRecDepth 100000 in
theorem w_f_Chart_sumTerms_37 (C : np_Cx gA p R s m args c D np_cl (np_ty cA) A np_al "NotationParse$Chart" prog_2_method_17_code 6 { frames := 2, cells := 0, slots := 0, locals := 43 }) (hQ : ∀ (pc : Nat) (ls : Array Slot) (H : Heap) (locs : List Loc) {σ : np_S}, decode prog_2_method_17_code pc = .ok (.return_, 1) → some ((0 : Int), σ) = some out → np_At D np_cl A (nc_wd q cA) s σ H locs → W p l e R s m args below meth c H locs 0 0 Q (F0 m pc ls []))   : ∀ (n : Nat), ∀ (x1 x2 x3 x4 : Int) (σ : np_S) (H : Heap) (locs : List Loc) (ls : Array Slot), f_Chart_sumTerms_37  n x1 x2 x3 x4 σ = some out → np_At D np_cl A (nc_wd q cA) s σ H locs → lv_has ls 6 [(0, .ref (q 11)), (1, .int (np_i x1)), (2, .int (np_i x2)), (3, .int (np_i x3)), (4, .int (np_i x4))] → W p l e R s m args below meth c H locs 0 0 Q (F0 m 37 ls []) := by
  intro n
  induction n with
  | zero => intro x1 x2 x3 x4 σ H locs ls hf; cases hf
  | succ n ih =>
    intro x1 x2 x3 x4 σ H locs ls hf hat hl
    have h37 := ih
    have hf : f_Chart_sumTerms_37_b  (fun x1 x2 x3 x4 σ => f_Chart_sumTerms_37  n x1 x2 x3 x4 σ) x1 x2 x3 x4 σ = some out := hf
    unfold f_Chart_sumTerms_37_b at hf
    refine lv_iload C.x C.b dd_Chart_sumTerms_37 (lv_at hl 4 rfl) ?_
    refine lv_aload_n C.x C.b dd_Chart_sumTerms_39 rfl (lv_at hl 0 rfl) ?_
    refine np_get (v := .ref (q 1)) C i_Chart hat.1 11 (nc_o11 _) rfl 0 (by decide) tw_121 rfl rfl dd_Chart_sumTerms_40 ?_
    refine np_get (v := .int (np_i (σ 1 4))) C i_Grammar hat.1 1 (nc_o1 _) rfl 4 (by decide) tw_61 rfl rfl dd_Chart_sumTerms_43 ?_
    refine np_icmp_ge (tgt := 105) C dd_Chart_sumTerms_46 (by decide) hf (fun _ hf => ?_) (fun _ hf => ?_)
    · refine lv_bipush (v := np_i 9) C.x C.b dd_Chart_sumTerms_105 (by decide +kernel) ?_
      refine lv_istore (lv' := [(4, .int (np_i 9)), (0, .ref (q 11)), (1, .int (np_i x1)), (2, .int (np_i x2)), (3, .int (np_i x3))]) C.x C.b dd_Chart_sumTerms_107 hl (by decide) rfl (fun ls hl => ?_)
      exact w_f_Chart_sumTerms_109 C hQ  20000 _ _ _ _ _ _ hf hat (lv_sub hl [1, 4, 0] rfl)
    · refine lv_aload_n C.x C.b dd_Chart_sumTerms_49 rfl (lv_at hl 0 rfl) ?_
      refine np_get (v := .ref (q 1)) C i_Chart hat.1 11 (nc_o11 _) rfl 0 (by decide) tw_121 rfl rfl dd_Chart_sumTerms_50 ?_
      refine lv_iload C.x C.b dd_Chart_sumTerms_53 (lv_at hl 4 rfl) ?_
      refine np_callVi (As := [.int (np_i x4)]) (rest := []) C (c_Grammar_lastDot l x4 _) np_allgood tw_775 tw_776 tw_777 tw_2 tw_778 (nA := 1) (by decide +kernel) rfl ⟨rfl, rfl, Nat.le_of_ble_eq_true rfl, Nat.le_of_ble_eq_true rfl⟩ (va_recv C.k hat.1 (ci := 1) (q0 := 1) rfl (nc_o1 _)) hat rfl hl.1 (Nat.le_of_ble_eq_true rfl) dd_Chart_sumTerms_55 hf (fun o2 H locs hf hat => ?_)
      refine lv_istore (lv' := [(5, .int (np_i o2.1)), (0, .ref (q 11)), (1, .int (np_i x1)), (2, .int (np_i x2)), (3, .int (np_i x3)), (4, .int (np_i x4))]) C.x C.b dd_Chart_sumTerms_58 hl (by decide) rfl (fun ls hl => ?_)
      refine lv_aload_n C.x C.b dd_Chart_sumTerms_60 rfl (lv_at hl 1 rfl) ?_
      refine lv_iload_n C.x C.b dd_Chart_sumTerms_61 rfl (lv_at hl 2 rfl) ?_
      refine lv_iload_n C.x C.b dd_Chart_sumTerms_62 rfl (lv_at hl 3 rfl) ?_
      refine lv_iload C.x C.b dd_Chart_sumTerms_63 (lv_at hl 0 rfl) ?_
      refine np_callVi (As := [.int (np_i x1), .int (np_i x2), .int (np_i o2.1)]) (rest := []) C (c_Chart_isReached l x1 x2 o2.1 _) np_allgood tw_779 tw_781 tp_11 tw_5 tw_782 (nA := 3) (by decide +kernel) rfl ⟨rfl, rfl, Nat.le_of_ble_eq_true rfl, Nat.le_of_ble_eq_true rfl⟩ (va_recv C.k hat.1 (ci := 3) (q0 := 11) rfl (nc_o11 _)) hat rfl hl.1 (Nat.le_of_ble_eq_true rfl) dd_Chart_sumTerms_65 hf (fun o3 H locs hf hat => ?_)
      refine np_if_eq (tgt := 99) C dd_Chart_sumTerms_68 (by decide) hf (fun _ hf => ?_) (fun _ hf => ?_)
      · exact w_f_Chart_sumTerms_99 C hQ h37 _ _ _ _ _ _ _ _ hf hat (lv_sub hl [1, 2, 3, 4, 5] rfl)
      · refine lv_aload_n C.x C.b dd_Chart_sumTerms_71 rfl (lv_at hl 1 rfl) ?_
        refine lv_iload_n C.x C.b dd_Chart_sumTerms_72 rfl (lv_at hl 4 rfl) ?_
        refine lv_aload_n C.x C.b dd_Chart_sumTerms_73 rfl (lv_at hl 1 rfl) ?_
        refine np_get (v := .ref (q 1)) C i_Chart hat.1 11 (nc_o11 _) rfl 0 (by decide) tw_121 rfl rfl dd_Chart_sumTerms_74 ?_
        refine np_get (v := .ref (q 4)) C i_Grammar hat.1 1 (nc_o1 _) rfl 2 (by decide) tw_56 rfl rfl dd_Chart_sumTerms_77 ?_
        refine lv_iload C.x C.b dd_Chart_sumTerms_80 (lv_at hl 5 rfl) ?_
        refine np_iaload C hat.1 4 (nc_a4 _) 0 rfl (by decide) dd_Chart_sumTerms_82 hf (fun hf => ?_)
        refine np_iadd C dd_Chart_sumTerms_83 ?_
        refine lv_aload_n C.x C.b dd_Chart_sumTerms_84 rfl (lv_at hl 1 rfl) ?_
        refine np_get (v := .ref (q 13)) C i_Chart hat.1 11 (nc_o11 _) rfl 2 (by decide) tw_123 rfl rfl dd_Chart_sumTerms_85 ?_
        refine lv_iload_n C.x C.b dd_Chart_sumTerms_88 rfl (lv_at hl 3 rfl) ?_
        refine lv_bipush (v := np_i 98) C.x C.b dd_Chart_sumTerms_89 (by decide +kernel) ?_
        refine np_imul C dd_Chart_sumTerms_91 ?_
        refine lv_iload C.x C.b dd_Chart_sumTerms_92 (lv_at hl 0 rfl) ?_
        refine np_iadd C dd_Chart_sumTerms_94 ?_
        refine np_iaload C hat.1 13 (nc_a13 _) 0 rfl (by decide) dd_Chart_sumTerms_95 hf (fun hf => ?_)
        refine np_callVv (As := [.int (np_i (x3 + (o3.2 4 x4))), .int (np_i (o3.2 13 ((x2 * 98) + o2.1)))]) (rest := []) C (c_Chart_addTrees l (x3 + (o3.2 4 x4)) (o3.2 13 ((x2 * 98) + o2.1)) _) np_allgood tw_828 tw_830 tp_20 tw_5 tw_831 (nA := 2) (by decide +kernel) rfl ⟨rfl, rfl, Nat.le_of_ble_eq_true rfl, Nat.le_of_ble_eq_true rfl⟩ (va_recv C.k hat.1 (ci := 3) (q0 := 11) rfl (nc_o11 _)) hat rfl hl.1 (Nat.le_of_ble_eq_true rfl) dd_Chart_sumTerms_96 hf (fun o4 H locs hf hat => ?_)
        exact w_f_Chart_sumTerms_99 C hQ h37 _ _ _ _ _ _ _ _ hf hat (lv_sub hl [1, 2, 3, 4, 5] rfl)
set_option maxHeartbeats 4000000 in
set_option maxRecDepth 100000 in
theorem w_f_Chart_sumTerms_11 (C : np_Cx gA p R s m args c D np_cl (np_ty cA) A np_al "NotationParse$Chart" prog_2_method_17_code 6 { frames := 2, cells := 0, slots := 0, locals := 43 }) (hQ : ∀ (pc : Nat) (ls : Array Slot) (H : Heap) (locs : List Loc) {σ : np_S}, decode prog_2_method_17_code pc = .ok (.return_, 1) → some ((0 : Int), σ) = some out → np_At D np_cl A (nc_wd q cA) s σ H locs → W p l e R s m args below meth c H locs 0 0 Q (F0 m pc ls []))   : ∀ (n : Nat), ∀ (x1 x2 x3 x4 : Int) (σ : np_S) (H : Heap) (locs : List Loc) (ls : Array Slot), f_Chart_sumTerms_11  n x1 x2 x3 x4 σ = some out → np_At D np_cl A (nc_wd q cA) s σ H locs → lv_has ls 6 [(0, .ref (q 11)), (1, .int (np_i x1)), (2, .int (np_i x2)), (3, .int (np_i x3)), (4, .int (np_i x4))] → W p l e R s m args below meth c H locs 0 0 Q (F0 m 11 ls []) := by
  intro n
  induction n with
  | zero => intro x1 x2 x3 x4 σ H locs ls hf; cases hf
  | succ n ih =>
    intro x1 x2 x3 x4 σ H locs ls hf hat hl
    have h11 := ih
    have hf : f_Chart_sumTerms_11_b  (fun x1 x2 x3 x4 σ => f_Chart_sumTerms_11  n x1 x2 x3 x4 σ) x1 x2 x3 x4 σ = some out := hf
    unfold f_Chart_sumTerms_11_b at hf
    refine lv_iload C.x C.b dd_Chart_sumTerms_11 (lv_at hl 4 rfl) ?_
    refine lv_bipush (v := np_i 10) C.x C.b dd_Chart_sumTerms_13 (by decide +kernel) ?_
    refine np_icmp_gt (tgt := 34) C dd_Chart_sumTerms_15 (by decide) hf (fun _ hf => ?_) (fun _ hf => ?_)
    · refine lv_iconst (v := np_i 0) C.x C.b dd_Chart_sumTerms_34 rfl ?_
      refine lv_istore (lv' := [(4, .int (np_i 0)), (0, .ref (q 11)), (1, .int (np_i x1)), (2, .int (np_i x2)), (3, .int (np_i x3))]) C.x C.b dd_Chart_sumTerms_35 hl (by decide) rfl (fun ls hl => ?_)
      exact w_f_Chart_sumTerms_37 C hQ  20000 _ _ _ _ _ _ _ _ hf hat (lv_sub hl [1, 2, 3, 4, 0] rfl)
    · refine lv_aload_n C.x C.b dd_Chart_sumTerms_18 rfl (lv_at hl 0 rfl) ?_
      refine np_get (v := .ref (q 14)) C i_Chart hat.1 11 (nc_o11 _) rfl 3 (by decide) tw_124 rfl rfl dd_Chart_sumTerms_19 ?_
      refine lv_iload_n C.x C.b dd_Chart_sumTerms_22 rfl (lv_at hl 3 rfl) ?_
      refine lv_iload C.x C.b dd_Chart_sumTerms_23 (lv_at hl 4 rfl) ?_
      refine np_iadd C dd_Chart_sumTerms_25 ?_
      refine lv_iconst (v := np_i 0) C.x C.b dd_Chart_sumTerms_26 rfl ?_
      refine np_iastore C hat 14 (nc_a14 _) 0 rfl (by decide) (nc_s14 _ _ _) dd_Chart_sumTerms_27 hf (fun H locs hat hf => ?_)
      refine lv_iinc (v := np_i (x4 + 1)) (lv' := [(4, .int (np_i (x4 + 1))), (0, .ref (q 11)), (1, .int (np_i x1)), (2, .int (np_i x2)), (3, .int (np_i x3))]) C.x C.b dd_Chart_sumTerms_28 hl (k := 4) rfl (np_inc _ _) (by decide) rfl (fun ls hl => ?_)
      refine lv_goto (tgt := 11) C.x C.b dd_Chart_sumTerms_31 (by decide) ?_
      exact h11 _ _ _ _ _ _ _ _ hf hat (lv_sub hl [1, 2, 3, 4, 0] rfl)
set_option maxHeartbeats 4000000 in
set_option maxRecDepth 100000 in
theorem w_f_Chart_sumTerms (C : np_Cx gA p R s m args c D np_cl (np_ty cA) A np_al "NotationParse$Chart" prog_2_method_17_code 6 { frames := 2, cells := 0, slots := 0, locals := 43 }) (hQ : ∀ (pc : Nat) (ls : Array Slot) (H : Heap) (locs : List Loc) {σ : np_S}, decode prog_2_method_17_code pc = .ok (.return_, 1) → some ((0 : Int), σ) = some out → np_At D np_cl A (nc_wd q cA) s σ H locs → W p l e R s m args below meth c H locs 0 0 Q (F0 m pc ls []))   : ∀ (x1 x2 : Int) (σ : np_S) (H : Heap) (locs : List Loc) (ls : Array Slot), f_Chart_sumTerms  x1 x2 σ = some out → np_At D np_cl A (nc_wd q cA) s σ H locs → lv_has ls 6 [(0, .ref (q 11)), (1, .int (np_i x1)), (2, .int (np_i x2))] → W p l e R s m args below meth c H locs 0 0 Q (F0 m 0 ls []) := by
  intro x1 x2 σ H locs ls hf hat hl
  unfold f_Chart_sumTerms at hf
  refine lv_aload_n C.x C.b dd_Chart_sumTerms_0 rfl (lv_at hl 0 rfl) ?_
  refine lv_iload_n C.x C.b dd_Chart_sumTerms_1 rfl (lv_at hl 1 rfl) ?_
  refine lv_iload_n C.x C.b dd_Chart_sumTerms_2 rfl (lv_at hl 2 rfl) ?_
  refine lv_iconst (v := np_i 0) C.x C.b dd_Chart_sumTerms_3 rfl ?_
  refine np_callVi (As := [.int (np_i x1), .int (np_i x2), .int (np_i 0)]) (rest := []) C (c_Chart_cell l x1 x2 0 _) np_allgood tw_816 tw_818 tp_18 tw_5 tw_819 (nA := 3) (by decide +kernel) rfl ⟨rfl, rfl, Nat.le_of_ble_eq_true rfl, Nat.le_of_ble_eq_true rfl⟩ (va_recv C.k hat.1 (ci := 3) (q0 := 11) rfl (nc_o11 _)) hat rfl hl.1 (Nat.le_of_ble_eq_true rfl) dd_Chart_sumTerms_4 hf (fun o5 H locs hf hat => ?_)
  refine lv_istore_n (lv' := [(3, .int (np_i o5.1)), (0, .ref (q 11)), (1, .int (np_i x1)), (2, .int (np_i x2))]) C.x C.b dd_Chart_sumTerms_7 rfl hl (by decide) rfl (fun ls hl => ?_)
  refine lv_iconst (v := np_i 0) C.x C.b dd_Chart_sumTerms_8 rfl ?_
  refine lv_istore (lv' := [(4, .int (np_i 0)), (3, .int (np_i o5.1)), (0, .ref (q 11)), (1, .int (np_i x1)), (2, .int (np_i x2))]) C.x C.b dd_Chart_sumTerms_9 hl (by decide) rfl (fun ls hl => ?_)
  exact w_f_Chart_sumTerms_11 C hQ  20000 _ _ _ _ _ _ _ _ hf hat (lv_sub hl [2, 3, 4, 1, 0] rfl)
set_option maxHeartbeats 4000000 in
set_option maxRecDepth 100000 in
theorem c_Chart_sumTerms (l : Launch) {gA : Nat → Nat} {D : va_G} {q : Nat → Nat} {cA : Nat → ClassId} (x1 x2 : Int) (σ : np_S) : np_Mv gA l D np_cl (np_ty cA) (nc_wd q cA) yy_Chart_sumTerms (.code yy_Chart_sumTerms prog_2_method_17_code 6 none :: np_al) { frames := 2, cells := 0, slots := 0, locals := 43 } [.ref (q 11), .int (np_i x1), .int (np_i x2)] σ (f_Chart_sumTerms x1 x2 σ) :=
  np_mkv (by decide +kernel) (Nat.le_of_ble_eq_true rfl) (fun o p e R s m args below meth c Q A ls hf C hQ hat hl => w_f_Chart_sumTerms C hQ x1 x2 σ _ _ _ hf hat (lv_sub hl [0, 1, 2] rfl))
set_option maxHeartbeats 4000000 in
set_option maxRecDepth 100000 in
theorem w_f_Chart_countFirstHoles_64 (C : np_Cx gA p R s m args c D np_cl (np_ty cA) A np_al "NotationParse$Chart" prog_2_method_19_code 6 { frames := 1, cells := 0, slots := 0, locals := 23 }) (hQ : ∀ (pc : Nat) (ls : Array Slot) (H : Heap) (locs : List Loc) {σ : np_S}, decode prog_2_method_19_code pc = .ok (.return_, 1) → some ((0 : Int), σ) = some out → np_At D np_cl A (nc_wd q cA) s σ H locs → W p l e R s m args below meth c H locs 0 0 Q (F0 m pc ls [])) {k2 : (Int → Int → Int → np_S → Option np_O)} (h2 : ∀ (x1 x2 x3 : Int) (σ : np_S) (H : Heap) (locs : List Loc) (ls : Array Slot), k2 x1 x2 x3 σ = some out → np_At D np_cl A (nc_wd q cA) s σ H locs → lv_has ls 6 [(0, .ref (q 11)), (1, .int (np_i x1)), (2, .int (np_i x2)), (3, .int (np_i x3))] → W p l e R s m args below meth c H locs 0 0 Q (F0 m 2 ls [])) : ∀ (x1 x2 x3 : Int) (σ : np_S) (H : Heap) (locs : List Loc) (ls : Array Slot), f_Chart_countFirstHoles_64 k2 x1 x2 x3 σ = some out → np_At D np_cl A (nc_wd q cA) s σ H locs → lv_has ls 6 [(0, .ref (q 11)), (1, .int (np_i x1)), (2, .int (np_i x2)), (3, .int (np_i x3))] → W p l e R s m args below meth c H locs 0 0 Q (F0 m 64 ls []) := by
  intro x1 x2 x3 σ H locs ls hf hat hl
  unfold f_Chart_countFirstHoles_64 at hf
  refine lv_iinc (v := np_i (x3 + 1)) (lv' := [(3, .int (np_i (x3 + 1))), (0, .ref (q 11)), (1, .int (np_i x1)), (2, .int (np_i x2))]) C.x C.b dd_Chart_countFirstHoles_64 hl (k := 3) rfl (np_inc _ _) (by decide) rfl (fun ls hl => ?_)
  refine lv_goto (tgt := 2) C.x C.b dd_Chart_countFirstHoles_67 (by decide) ?_
  exact h2 _ _ _ _ _ _ _ hf hat (lv_sub hl [1, 2, 3, 0] rfl)
set_option maxHeartbeats 4000000 in
set_option maxRecDepth 100000 in
theorem w_f_Chart_countFirstHoles_2 (C : np_Cx gA p R s m args c D np_cl (np_ty cA) A np_al "NotationParse$Chart" prog_2_method_19_code 6 { frames := 1, cells := 0, slots := 0, locals := 23 }) (hQ : ∀ (pc : Nat) (ls : Array Slot) (H : Heap) (locs : List Loc) {σ : np_S}, decode prog_2_method_19_code pc = .ok (.return_, 1) → some ((0 : Int), σ) = some out → np_At D np_cl A (nc_wd q cA) s σ H locs → W p l e R s m args below meth c H locs 0 0 Q (F0 m pc ls []))   : ∀ (n : Nat), ∀ (x1 x2 x3 : Int) (σ : np_S) (H : Heap) (locs : List Loc) (ls : Array Slot), f_Chart_countFirstHoles_2  n x1 x2 x3 σ = some out → np_At D np_cl A (nc_wd q cA) s σ H locs → lv_has ls 6 [(0, .ref (q 11)), (1, .int (np_i x1)), (2, .int (np_i x2)), (3, .int (np_i x3))] → W p l e R s m args below meth c H locs 0 0 Q (F0 m 2 ls []) := by
  intro n
  induction n with
  | zero => intro x1 x2 x3 σ H locs ls hf; cases hf
  | succ n ih =>
    intro x1 x2 x3 σ H locs ls hf hat hl
    have h2 := ih
    have hf : f_Chart_countFirstHoles_2_b  (fun x1 x2 x3 σ => f_Chart_countFirstHoles_2  n x1 x2 x3 σ) x1 x2 x3 σ = some out := hf
    unfold f_Chart_countFirstHoles_2_b at hf
    refine lv_iload_n C.x C.b dd_Chart_countFirstHoles_2 rfl (lv_at hl 3 rfl) ?_
    refine lv_aload_n C.x C.b dd_Chart_countFirstHoles_3 rfl (lv_at hl 0 rfl) ?_
    refine np_get (v := .ref (q 1)) C i_Chart hat.1 11 (nc_o11 _) rfl 0 (by decide) tw_121 rfl rfl dd_Chart_countFirstHoles_4 ?_
    refine np_get (v := .int (np_i (σ 1 4))) C i_Grammar hat.1 1 (nc_o1 _) rfl 4 (by decide) tw_61 rfl rfl dd_Chart_countFirstHoles_7 ?_
    refine np_icmp_ge (tgt := 70) C dd_Chart_countFirstHoles_10 (by decide) hf (fun _ hf => ?_) (fun _ hf => ?_)
    · exact hQ _ _ _ _ dd_Chart_countFirstHoles_70 hf hat
    · refine lv_iload_n C.x C.b dd_Chart_countFirstHoles_13 rfl (lv_at hl 3 rfl) ?_
      refine lv_bipush (v := np_i 7) C.x C.b dd_Chart_countFirstHoles_14 (by decide +kernel) ?_
      refine np_imul C dd_Chart_countFirstHoles_16 ?_
      refine lv_istore (lv' := [(4, .int (np_i (x3 * 7))), (0, .ref (q 11)), (1, .int (np_i x1)), (2, .int (np_i x2)), (3, .int (np_i x3))]) C.x C.b dd_Chart_countFirstHoles_17 hl (by decide) rfl (fun ls hl => ?_)
      refine lv_aload_n C.x C.b dd_Chart_countFirstHoles_19 rfl (lv_at hl 1 rfl) ?_
      refine np_get (v := .ref (q 1)) C i_Chart hat.1 11 (nc_o11 _) rfl 0 (by decide) tw_121 rfl rfl dd_Chart_countFirstHoles_20 ?_
      refine np_get (v := .ref (q 2)) C i_Grammar hat.1 1 (nc_o1 _) rfl 0 (by decide) tw_52 rfl rfl dd_Chart_countFirstHoles_23 ?_
      refine lv_iload C.x C.b dd_Chart_countFirstHoles_26 (lv_at hl 0 rfl) ?_
      refine np_iaload C hat.1 2 (nc_a2 _) 0 rfl (by decide) dd_Chart_countFirstHoles_28 hf (fun hf => ?_)
      refine lv_istore (lv' := [(5, .int (np_i (σ 2 (x3 * 7)))), (4, .int (np_i (x3 * 7))), (0, .ref (q 11)), (1, .int (np_i x1)), (2, .int (np_i x2)), (3, .int (np_i x3))]) C.x C.b dd_Chart_countFirstHoles_29 hl (by decide) rfl (fun ls hl => ?_)
      refine lv_iload C.x C.b dd_Chart_countFirstHoles_31 (lv_at hl 0 rfl) ?_
      refine lv_iconst (v := np_i (-1)) C.x C.b dd_Chart_countFirstHoles_33 rfl ?_
      refine np_icmp_eq (tgt := 64) C dd_Chart_countFirstHoles_34 (by decide) hf (fun _ hf => ?_) (fun _ hf => ?_)
      · exact w_f_Chart_countFirstHoles_64 C hQ h2 _ _ _ _ _ _ _ hf hat (lv_sub hl [2, 3, 4, 5] rfl)
      · refine lv_aload_n C.x C.b dd_Chart_countFirstHoles_37 rfl (lv_at hl 2 rfl) ?_
        refine np_get (v := .ref (q 13)) C i_Chart hat.1 11 (nc_o11 _) rfl 2 (by decide) tw_123 rfl rfl dd_Chart_countFirstHoles_38 ?_
        refine lv_iload_n C.x C.b dd_Chart_countFirstHoles_41 rfl (lv_at hl 4 rfl) ?_
        refine lv_bipush (v := np_i 98) C.x C.b dd_Chart_countFirstHoles_42 (by decide +kernel) ?_
        refine np_imul C dd_Chart_countFirstHoles_44 ?_
        refine lv_iload C.x C.b dd_Chart_countFirstHoles_45 (lv_at hl 1 rfl) ?_
        refine np_iadd C dd_Chart_countFirstHoles_47 ?_
        refine lv_iconst (v := np_i 1) C.x C.b dd_Chart_countFirstHoles_48 rfl ?_
        refine np_iadd C dd_Chart_countFirstHoles_49 ?_
        refine lv_aload_n C.x C.b dd_Chart_countFirstHoles_50 rfl (lv_at hl 2 rfl) ?_
        refine np_get (v := .ref (q 14)) C i_Chart hat.1 11 (nc_o11 _) rfl 3 (by decide) tw_124 rfl rfl dd_Chart_countFirstHoles_51 ?_
        refine lv_aload_n C.x C.b dd_Chart_countFirstHoles_54 rfl (lv_at hl 2 rfl) ?_
        refine lv_iload_n C.x C.b dd_Chart_countFirstHoles_55 rfl (lv_at hl 3 rfl) ?_
        refine lv_iload_n C.x C.b dd_Chart_countFirstHoles_56 rfl (lv_at hl 4 rfl) ?_
        refine lv_iload C.x C.b dd_Chart_countFirstHoles_57 (lv_at hl 0 rfl) ?_
        refine np_callVi (As := [.int (np_i x1), .int (np_i x2), .int (np_i (σ 2 (x3 * 7)))]) (rest := [.ref (q 14), .int (np_i (((x2 * 98) + (x3 * 7)) + 1)), .ref (q 13)]) C (c_Chart_cell l x1 x2 (σ 2 (x3 * 7)) _) np_allgood tw_816 tw_818 tp_18 tw_5 tw_819 (nA := 3) (by decide +kernel) rfl ⟨rfl, rfl, Nat.le_of_ble_eq_true rfl, Nat.le_of_ble_eq_true rfl⟩ (va_recv C.k hat.1 (ci := 3) (q0 := 11) rfl (nc_o11 _)) hat rfl hl.1 (Nat.le_of_ble_eq_true rfl) dd_Chart_countFirstHoles_59 hf (fun o1 H locs hf hat => ?_)
        refine np_iaload C hat.1 14 (nc_a14 _) 0 rfl (by decide) dd_Chart_countFirstHoles_62 hf (fun hf => ?_)
        refine np_iastore C hat 13 (nc_a13 _) 0 rfl (by decide) (nc_s13 _ _ _) dd_Chart_countFirstHoles_63 hf (fun H locs hat hf => ?_)
        exact w_f_Chart_countFirstHoles_64 C hQ h2 _ _ _ _ _ _ _ hf hat (lv_sub hl [2, 3, 4, 5] rfl)
set_option maxHeartbeats 4000000 in
set_option maxRecDepth 100000 in
theorem w_f_Chart_countFirstHoles (C : np_Cx gA p R s m args c D np_cl (np_ty cA) A np_al "NotationParse$Chart" prog_2_method_19_code 6 { frames := 1, cells := 0, slots := 0, locals := 23 }) (hQ : ∀ (pc : Nat) (ls : Array Slot) (H : Heap) (locs : List Loc) {σ : np_S}, decode prog_2_method_19_code pc = .ok (.return_, 1) → some ((0 : Int), σ) = some out → np_At D np_cl A (nc_wd q cA) s σ H locs → W p l e R s m args below meth c H locs 0 0 Q (F0 m pc ls []))   : ∀ (x1 x2 : Int) (σ : np_S) (H : Heap) (locs : List Loc) (ls : Array Slot), f_Chart_countFirstHoles  x1 x2 σ = some out → np_At D np_cl A (nc_wd q cA) s σ H locs → lv_has ls 6 [(0, .ref (q 11)), (1, .int (np_i x1)), (2, .int (np_i x2))] → W p l e R s m args below meth c H locs 0 0 Q (F0 m 0 ls []) := by
  intro x1 x2 σ H locs ls hf hat hl
  unfold f_Chart_countFirstHoles at hf
  refine lv_iconst (v := np_i 0) C.x C.b dd_Chart_countFirstHoles_0 rfl ?_
  refine lv_istore_n (lv' := [(3, .int (np_i 0)), (0, .ref (q 11)), (1, .int (np_i x1)), (2, .int (np_i x2))]) C.x C.b dd_Chart_countFirstHoles_1 rfl hl (by decide) rfl (fun ls hl => ?_)
  exact w_f_Chart_countFirstHoles_2 C hQ  20000 _ _ _ _ _ _ _ hf hat (lv_sub hl [1, 2, 3, 0] rfl)
set_option maxHeartbeats 4000000 in
set_option maxRecDepth 100000 in
theorem c_Chart_countFirstHoles (l : Launch) {gA : Nat → Nat} {D : va_G} {q : Nat → Nat} {cA : Nat → ClassId} (x1 x2 : Int) (σ : np_S) : np_Mv gA l D np_cl (np_ty cA) (nc_wd q cA) yy_Chart_countFirstHoles (.code yy_Chart_countFirstHoles prog_2_method_19_code 6 none :: np_al) { frames := 1, cells := 0, slots := 0, locals := 23 } [.ref (q 11), .int (np_i x1), .int (np_i x2)] σ (f_Chart_countFirstHoles x1 x2 σ) :=
  np_mkv (by decide +kernel) (Nat.le_of_ble_eq_true rfl) (fun o p e R s m args below meth c Q A ls hf C hQ hat hl => w_f_Chart_countFirstHoles C hQ x1 x2 σ _ _ _ hf hat (lv_sub hl [0, 1, 2] rfl))
set_option maxHeartbeats 4000000 in
set_option maxRecDepth 100000 in
theorem w_f_Chart_countSplits_60 (C : np_Cx gA p R s m args c D np_cl (np_ty cA) A np_al "NotationParse$Chart" prog_2_method_16_code 8 { frames := 1, cells := 0, slots := 0, locals := 23 }) (hQ : ∀ (pc : Nat) (ls : Array Slot) (H : Heap) (locs : List Loc) (v : Int) {σ : np_S}, decode prog_2_method_16_code pc = .ok (.ireturn, 1) → some (v, σ) = some out → np_At D np_cl A (nc_wd q cA) s σ H locs → W p l e R s m args below meth c H locs 0 0 Q (F0 m pc ls [.int (np_i v)])) {k8 : (Int → Int → Int → Int → Int → Int → np_S → Option np_O)} (h8 : ∀ (x1 x2 x3 x4 x5 x7 : Int) (σ : np_S) (H : Heap) (locs : List Loc) (ls : Array Slot), k8 x1 x2 x3 x4 x5 x7 σ = some out → np_At D np_cl A (nc_wd q cA) s σ H locs → lv_has ls 8 [(0, .ref (q 11)), (1, .int (np_i x1)), (2, .int (np_i x2)), (3, .int (np_i x3)), (4, .int (np_i x4)), (5, .long (np_l x5)), (7, .int (np_i x7))] → W p l e R s m args below meth c H locs 0 0 Q (F0 m 8 ls [])) : ∀ (x1 x2 x3 x4 x5 x7 : Int) (σ : np_S) (H : Heap) (locs : List Loc) (ls : Array Slot), f_Chart_countSplits_60 k8 x1 x2 x3 x4 x5 x7 σ = some out → np_At D np_cl A (nc_wd q cA) s σ H locs → lv_has ls 8 [(0, .ref (q 11)), (1, .int (np_i x1)), (2, .int (np_i x2)), (3, .int (np_i x3)), (4, .int (np_i x4)), (5, .long (np_l x5)), (7, .int (np_i x7))] → W p l e R s m args below meth c H locs 0 0 Q (F0 m 60 ls []) := by
  intro x1 x2 x3 x4 x5 x7 σ H locs ls hf hat hl
  unfold f_Chart_countSplits_60 at hf
  refine lv_iinc (v := np_i (x7 + 1)) (lv' := [(7, .int (np_i (x7 + 1))), (0, .ref (q 11)), (1, .int (np_i x1)), (2, .int (np_i x2)), (3, .int (np_i x3)), (4, .int (np_i x4)), (5, .long (np_l x5))]) C.x C.b dd_Chart_countSplits_60 hl (k := 6) rfl (np_inc _ _) (by decide) rfl (fun ls hl => ?_)
  refine lv_goto (tgt := 8) C.x C.b dd_Chart_countSplits_63 (by decide) ?_
  exact h8 _ _ _ _ _ _ _ _ _ _ hf hat (lv_sub hl [1, 2, 3, 4, 5, 6, 0] rfl)
set_option maxHeartbeats 4000000 in
set_option maxRecDepth 100000 in
theorem w_f_Chart_countSplits_8 (C : np_Cx gA p R s m args c D np_cl (np_ty cA) A np_al "NotationParse$Chart" prog_2_method_16_code 8 { frames := 1, cells := 0, slots := 0, locals := 23 }) (hQ : ∀ (pc : Nat) (ls : Array Slot) (H : Heap) (locs : List Loc) (v : Int) {σ : np_S}, decode prog_2_method_16_code pc = .ok (.ireturn, 1) → some (v, σ) = some out → np_At D np_cl A (nc_wd q cA) s σ H locs → W p l e R s m args below meth c H locs 0 0 Q (F0 m pc ls [.int (np_i v)]))   : ∀ (n : Nat), ∀ (x1 x2 x3 x4 x5 x7 : Int) (σ : np_S) (H : Heap) (locs : List Loc) (ls : Array Slot), f_Chart_countSplits_8  n x1 x2 x3 x4 x5 x7 σ = some out → np_At D np_cl A (nc_wd q cA) s σ H locs → lv_has ls 8 [(0, .ref (q 11)), (1, .int (np_i x1)), (2, .int (np_i x2)), (3, .int (np_i x3)), (4, .int (np_i x4)), (5, .long (np_l x5)), (7, .int (np_i x7))] → W p l e R s m args below meth c H locs 0 0 Q (F0 m 8 ls []) := by
  intro n
  induction n with
  | zero => intro x1 x2 x3 x4 x5 x7 σ H locs ls hf; cases hf
  | succ n ih =>
    intro x1 x2 x3 x4 x5 x7 σ H locs ls hf hat hl
    have h8 := ih
    have hf : f_Chart_countSplits_8_b  (fun x1 x2 x3 x4 x5 x7 σ => f_Chart_countSplits_8  n x1 x2 x3 x4 x5 x7 σ) x1 x2 x3 x4 x5 x7 σ = some out := hf
    unfold f_Chart_countSplits_8_b at hf
    refine lv_iload C.x C.b dd_Chart_countSplits_8 (lv_at hl 6 rfl) ?_
    refine lv_iload C.x C.b dd_Chart_countSplits_10 (lv_at hl 4 rfl) ?_
    refine np_icmp_ge (tgt := 66) C dd_Chart_countSplits_12 (by decide) hf (fun _ hf => ?_) (fun _ hf => ?_)
    · refine lv_lload C.x C.b dd_Chart_countSplits_66 (lv_at hl 5 rfl) ?_
      refine np_ldc2 (v := 1000000) C tw_820 dd_Chart_countSplits_68 ?_
      refine np_mmin_l C tw_821 tw_822 tw_17 tw_823 (Nat.le_of_ble_eq_true rfl) (Nat.le_of_ble_eq_true rfl) hl.1 dd_Chart_countSplits_71 hf (fun hf => ?_)
      refine np_l2i C dd_Chart_countSplits_74 ?_
      exact hQ _ _ _ _ _ dd_Chart_countSplits_75 hf hat
    · refine lv_aload_n C.x C.b dd_Chart_countSplits_15 rfl (lv_at hl 0 rfl) ?_
      refine lv_iload_n C.x C.b dd_Chart_countSplits_16 rfl (lv_at hl 3 rfl) ?_
      refine lv_iload C.x C.b dd_Chart_countSplits_17 (lv_at hl 6 rfl) ?_
      refine lv_iload_n C.x C.b dd_Chart_countSplits_19 rfl (lv_at hl 1 rfl) ?_
      refine np_callVi (As := [.int (np_i x3), .int (np_i x7), .int (np_i x1)]) (rest := []) C (c_Chart_isReached l x3 x7 x1 _) np_allgood tw_779 tw_781 tp_11 tw_5 tw_782 (nA := 3) (by decide +kernel) rfl ⟨rfl, rfl, Nat.le_of_ble_eq_true rfl, Nat.le_of_ble_eq_true rfl⟩ (va_recv C.k hat.1 (ci := 3) (q0 := 11) rfl (nc_o11 _)) hat rfl hl.1 (Nat.le_of_ble_eq_true rfl) dd_Chart_countSplits_20 hf (fun o1 H locs hf hat => ?_)
      refine np_if_eq (tgt := 60) C dd_Chart_countSplits_23 (by decide) hf (fun _ hf => ?_) (fun _ hf => ?_)
      · exact w_f_Chart_countSplits_60 C hQ h8 _ _ _ _ _ _ _ _ _ _ hf hat (lv_sub hl [0, 1, 2, 3, 4, 5, 6] rfl)
      · refine lv_lload C.x C.b dd_Chart_countSplits_26 (lv_at hl 5 rfl) ?_
        refine lv_aload_n C.x C.b dd_Chart_countSplits_28 rfl (lv_at hl 0 rfl) ?_
        refine np_get (v := .ref (q 13)) C i_Chart hat.1 11 (nc_o11 _) rfl 2 (by decide) tw_123 rfl rfl dd_Chart_countSplits_29 ?_
        refine lv_iload C.x C.b dd_Chart_countSplits_32 (lv_at hl 6 rfl) ?_
        refine lv_bipush (v := np_i 98) C.x C.b dd_Chart_countSplits_34 (by decide +kernel) ?_
        refine np_imul C dd_Chart_countSplits_36 ?_
        refine lv_iload_n C.x C.b dd_Chart_countSplits_37 rfl (lv_at hl 1 rfl) ?_
        refine np_iadd C dd_Chart_countSplits_38 ?_
        refine np_iaload C hat.1 13 (nc_a13 _) 0 rfl (by decide) dd_Chart_countSplits_39 hf (fun hf => ?_)
        refine np_i2l C dd_Chart_countSplits_40 hf (fun hf => ?_)
        refine lv_aload_n C.x C.b dd_Chart_countSplits_41 rfl (lv_at hl 0 rfl) ?_
        refine np_get (v := .ref (q 14)) C i_Chart hat.1 11 (nc_o11 _) rfl 3 (by decide) tw_124 rfl rfl dd_Chart_countSplits_42 ?_
        refine lv_aload_n C.x C.b dd_Chart_countSplits_45 rfl (lv_at hl 0 rfl) ?_
        refine lv_iload C.x C.b dd_Chart_countSplits_46 (lv_at hl 6 rfl) ?_
        refine lv_iload C.x C.b dd_Chart_countSplits_48 (lv_at hl 4 rfl) ?_
        refine lv_iload_n C.x C.b dd_Chart_countSplits_50 rfl (lv_at hl 2 rfl) ?_
        refine np_callVi (As := [.int (np_i x7), .int (np_i x4), .int (np_i x2)]) (rest := [.ref (q 14), .long (np_l (o1.2 13 ((x7 * 98) + x1))), .long (np_l x5)]) C (c_Chart_cell l x7 x4 x2 _) np_allgood tw_816 tw_818 tp_18 tw_5 tw_819 (nA := 3) (by decide +kernel) rfl ⟨rfl, rfl, Nat.le_of_ble_eq_true rfl, Nat.le_of_ble_eq_true rfl⟩ (va_recv C.k hat.1 (ci := 3) (q0 := 11) rfl (nc_o11 _)) hat rfl hl.1 (Nat.le_of_ble_eq_true rfl) dd_Chart_countSplits_51 hf (fun o2 H locs hf hat => ?_)
        refine np_iaload C hat.1 14 (nc_a14 _) 0 rfl (by decide) dd_Chart_countSplits_54 hf (fun hf => ?_)
        refine np_i2l C dd_Chart_countSplits_55 hf (fun hf => ?_)
        refine np_lmul C dd_Chart_countSplits_56 ?_
        refine np_ladd C dd_Chart_countSplits_57 ?_
        refine lv_lstore (lv' := [(5, .long (np_l (x5 + ((o1.2 13 ((x7 * 98) + x1)) * (o2.2 14 o2.1))))), (0, .ref (q 11)), (1, .int (np_i x1)), (2, .int (np_i x2)), (3, .int (np_i x3)), (4, .int (np_i x4)), (7, .int (np_i x7))]) C.x C.b dd_Chart_countSplits_58 hl (by decide) rfl (fun ls hl => ?_)
        exact w_f_Chart_countSplits_60 C hQ h8 _ _ _ _ _ _ _ _ _ _ hf hat (lv_sub hl [1, 2, 3, 4, 5, 0, 6] rfl)
set_option maxHeartbeats 4000000 in
set_option maxRecDepth 100000 in
theorem w_f_Chart_countSplits (C : np_Cx gA p R s m args c D np_cl (np_ty cA) A np_al "NotationParse$Chart" prog_2_method_16_code 8 { frames := 1, cells := 0, slots := 0, locals := 23 }) (hQ : ∀ (pc : Nat) (ls : Array Slot) (H : Heap) (locs : List Loc) (v : Int) {σ : np_S}, decode prog_2_method_16_code pc = .ok (.ireturn, 1) → some (v, σ) = some out → np_At D np_cl A (nc_wd q cA) s σ H locs → W p l e R s m args below meth c H locs 0 0 Q (F0 m pc ls [.int (np_i v)]))   : ∀ (x1 x2 x3 x4 : Int) (σ : np_S) (H : Heap) (locs : List Loc) (ls : Array Slot), f_Chart_countSplits  x1 x2 x3 x4 σ = some out → np_At D np_cl A (nc_wd q cA) s σ H locs → lv_has ls 8 [(0, .ref (q 11)), (1, .int (np_i x1)), (2, .int (np_i x2)), (3, .int (np_i x3)), (4, .int (np_i x4))] → W p l e R s m args below meth c H locs 0 0 Q (F0 m 0 ls []) := by
  intro x1 x2 x3 x4 σ H locs ls hf hat hl
  unfold f_Chart_countSplits at hf
  refine lv_lconst (v := np_l 0) C.x C.b dd_Chart_countSplits_0 (by decide +kernel) ?_
  refine lv_lstore (lv' := [(5, .long (np_l 0)), (0, .ref (q 11)), (1, .int (np_i x1)), (2, .int (np_i x2)), (3, .int (np_i x3)), (4, .int (np_i x4))]) C.x C.b dd_Chart_countSplits_1 hl (by decide) rfl (fun ls hl => ?_)
  refine lv_iload_n C.x C.b dd_Chart_countSplits_3 rfl (lv_at hl 4 rfl) ?_
  refine lv_iconst (v := np_i 1) C.x C.b dd_Chart_countSplits_4 rfl ?_
  refine np_iadd C dd_Chart_countSplits_5 ?_
  refine lv_istore (lv' := [(7, .int (np_i (x3 + 1))), (5, .long (np_l 0)), (0, .ref (q 11)), (1, .int (np_i x1)), (2, .int (np_i x2)), (3, .int (np_i x3)), (4, .int (np_i x4))]) C.x C.b dd_Chart_countSplits_6 hl (by decide) rfl (fun ls hl => ?_)
  exact w_f_Chart_countSplits_8 C hQ  20000 _ _ _ _ _ _ _ _ _ _ hf hat (lv_sub hl [2, 3, 4, 5, 6, 1, 0] rfl)
set_option maxHeartbeats 4000000 in
set_option maxRecDepth 100000 in
theorem c_Chart_countSplits (l : Launch) {gA : Nat → Nat} {D : va_G} {q : Nat → Nat} {cA : Nat → ClassId} (x1 x2 x3 x4 : Int) (σ : np_S) : np_Mi gA l D np_cl (np_ty cA) (nc_wd q cA) yy_Chart_countSplits (.code yy_Chart_countSplits prog_2_method_16_code 8 (some .int) :: np_al) { frames := 1, cells := 0, slots := 0, locals := 23 } [.ref (q 11), .int (np_i x1), .int (np_i x2), .int (np_i x3), .int (np_i x4)] σ (f_Chart_countSplits x1 x2 x3 x4 σ) :=
  np_mki (by decide +kernel) (Nat.le_of_ble_eq_true rfl) (fun o p e R s m args below meth c Q A ls hf C hQ hat hl => w_f_Chart_countSplits C hQ x1 x2 x3 x4 σ _ _ _ hf hat (lv_sub hl [0, 1, 2, 3, 4] rfl))
set_option maxHeartbeats 4000000 in
set_option maxRecDepth 100000 in
theorem w_f_Chart_countRule_124 (C : np_Cx gA p R s m args c D np_cl (np_ty cA) A np_al "NotationParse$Chart" prog_2_method_15_code 8 { frames := 2, cells := 0, slots := 0, locals := 50 }) (hQ : ∀ (pc : Nat) (ls : Array Slot) (H : Heap) (locs : List Loc) {σ : np_S}, decode prog_2_method_15_code pc = .ok (.return_, 1) → some ((0 : Int), σ) = some out → np_At D np_cl A (nc_wd q cA) s σ H locs → W p l e R s m args below meth c H locs 0 0 Q (F0 m pc ls [])) {k22 : (Int → Int → Int → Int → Int → np_S → Option np_O)} (h22 : ∀ (x2 x3 x4 x5 x6 : Int) (σ : np_S) (H : Heap) (locs : List Loc) (ls : Array Slot), k22 x2 x3 x4 x5 x6 σ = some out → np_At D np_cl A (nc_wd q cA) s σ H locs → lv_has ls 8 [(0, .ref (q 11)), (2, .int (np_i x2)), (3, .int (np_i x3)), (4, .int (np_i x4)), (5, .int (np_i x5)), (6, .int (np_i x6))] → W p l e R s m args below meth c H locs 0 0 Q (F0 m 22 ls [])) : ∀ (x2 x3 x4 x5 x6 : Int) (σ : np_S) (H : Heap) (locs : List Loc) (ls : Array Slot), f_Chart_countRule_124 k22 x2 x3 x4 x5 x6 σ = some out → np_At D np_cl A (nc_wd q cA) s σ H locs → lv_has ls 8 [(0, .ref (q 11)), (2, .int (np_i x2)), (3, .int (np_i x3)), (4, .int (np_i x4)), (5, .int (np_i x5)), (6, .int (np_i x6))] → W p l e R s m args below meth c H locs 0 0 Q (F0 m 124 ls []) := by
  intro x2 x3 x4 x5 x6 σ H locs ls hf hat hl
  unfold f_Chart_countRule_124 at hf
  refine lv_iinc (v := np_i (x6 + 1)) (lv' := [(6, .int (np_i (x6 + 1))), (0, .ref (q 11)), (2, .int (np_i x2)), (3, .int (np_i x3)), (4, .int (np_i x4)), (5, .int (np_i x5))]) C.x C.b dd_Chart_countRule_124 hl (k := 5) rfl (np_inc _ _) (by decide) rfl (fun ls hl => ?_)
  refine lv_goto (tgt := 22) C.x C.b dd_Chart_countRule_127 (by decide) ?_
  exact h22 _ _ _ _ _ _ _ _ _ hf hat (lv_sub hl [1, 2, 3, 4, 5, 0] rfl)
set_option maxHeartbeats 4000000 in
set_option maxRecDepth 100000 in
theorem w_f_Chart_countRule_22 (C : np_Cx gA p R s m args c D np_cl (np_ty cA) A np_al "NotationParse$Chart" prog_2_method_15_code 8 { frames := 2, cells := 0, slots := 0, locals := 50 }) (hQ : ∀ (pc : Nat) (ls : Array Slot) (H : Heap) (locs : List Loc) {σ : np_S}, decode prog_2_method_15_code pc = .ok (.return_, 1) → some ((0 : Int), σ) = some out → np_At D np_cl A (nc_wd q cA) s σ H locs → W p l e R s m args below meth c H locs 0 0 Q (F0 m pc ls []))   : ∀ (n : Nat), ∀ (x2 x3 x4 x5 x6 : Int) (σ : np_S) (H : Heap) (locs : List Loc) (ls : Array Slot), f_Chart_countRule_22  n x2 x3 x4 x5 x6 σ = some out → np_At D np_cl A (nc_wd q cA) s σ H locs → lv_has ls 8 [(0, .ref (q 11)), (2, .int (np_i x2)), (3, .int (np_i x3)), (4, .int (np_i x4)), (5, .int (np_i x5)), (6, .int (np_i x6))] → W p l e R s m args below meth c H locs 0 0 Q (F0 m 22 ls []) := by
  intro n
  induction n with
  | zero => intro x2 x3 x4 x5 x6 σ H locs ls hf; cases hf
  | succ n ih =>
    intro x2 x3 x4 x5 x6 σ H locs ls hf hat hl
    have h22 := ih
    have hf : f_Chart_countRule_22_b  (fun x2 x3 x4 x5 x6 σ => f_Chart_countRule_22  n x2 x3 x4 x5 x6 σ) x2 x3 x4 x5 x6 σ = some out := hf
    unfold f_Chart_countRule_22_b at hf
    refine lv_iload C.x C.b dd_Chart_countRule_22 (lv_at hl 5 rfl) ?_
    refine lv_iload C.x C.b dd_Chart_countRule_24 (lv_at hl 4 rfl) ?_
    refine np_icmp_gt (tgt := 130) C dd_Chart_countRule_26 (by decide) hf (fun _ hf => ?_) (fun _ hf => ?_)
    · exact hQ _ _ _ _ dd_Chart_countRule_130 hf hat
    · refine lv_aload_n C.x C.b dd_Chart_countRule_29 rfl (lv_at hl 0 rfl) ?_
      refine lv_iload_n C.x C.b dd_Chart_countRule_30 rfl (lv_at hl 1 rfl) ?_
      refine lv_iload_n C.x C.b dd_Chart_countRule_31 rfl (lv_at hl 2 rfl) ?_
      refine lv_iload C.x C.b dd_Chart_countRule_32 (lv_at hl 5 rfl) ?_
      refine np_callVi (As := [.int (np_i x2), .int (np_i x3), .int (np_i x6)]) (rest := []) C (c_Chart_isReached l x2 x3 x6 _) np_allgood tw_779 tw_781 tp_11 tw_5 tw_782 (nA := 3) (by decide +kernel) rfl ⟨rfl, rfl, Nat.le_of_ble_eq_true rfl, Nat.le_of_ble_eq_true rfl⟩ (va_recv C.k hat.1 (ci := 3) (q0 := 11) rfl (nc_o11 _)) hat rfl hl.1 (Nat.le_of_ble_eq_true rfl) dd_Chart_countRule_34 hf (fun o1 H locs hf hat => ?_)
      refine np_if_eq (tgt := 124) C dd_Chart_countRule_37 (by decide) hf (fun _ hf => ?_) (fun _ hf => ?_)
      · exact w_f_Chart_countRule_124 C hQ h22 _ _ _ _ _ _ _ _ _ hf hat (lv_sub hl [0, 1, 2, 3, 4, 5] rfl)
      · refine lv_aload_n C.x C.b dd_Chart_countRule_40 rfl (lv_at hl 0 rfl) ?_
        refine np_get (v := .ref (q 1)) C i_Chart hat.1 11 (nc_o11 _) rfl 0 (by decide) tw_121 rfl rfl dd_Chart_countRule_41 ?_
        refine np_get (v := .ref (q 2)) C i_Grammar hat.1 1 (nc_o1 _) rfl 0 (by decide) tw_52 rfl rfl dd_Chart_countRule_44 ?_
        refine lv_iload C.x C.b dd_Chart_countRule_47 (lv_at hl 5 rfl) ?_
        refine lv_iconst (v := np_i 1) C.x C.b dd_Chart_countRule_49 rfl ?_
        refine np_isub C dd_Chart_countRule_50 ?_
        refine np_iaload C hat.1 2 (nc_a2 _) 0 rfl (by decide) dd_Chart_countRule_51 hf (fun hf => ?_)
        refine lv_istore (lv' := [(7, .int (np_i (o1.2 2 (x6 - 1)))), (0, .ref (q 11)), (2, .int (np_i x2)), (3, .int (np_i x3)), (4, .int (np_i x4)), (5, .int (np_i x5)), (6, .int (np_i x6))]) C.x C.b dd_Chart_countRule_52 hl (by decide) rfl (fun ls hl => ?_)
        refine lv_iload C.x C.b dd_Chart_countRule_54 (lv_at hl 0 rfl) ?_
        refine lv_iconst (v := np_i (-1)) C.x C.b dd_Chart_countRule_56 rfl ?_
        refine np_icmp_ne (tgt := 91) C dd_Chart_countRule_57 (by decide) hf (fun _ hf => ?_) (fun _ hf => ?_)
        · refine lv_iload C.x C.b dd_Chart_countRule_91 (lv_at hl 6 rfl) ?_
          refine lv_iload C.x C.b dd_Chart_countRule_93 (lv_at hl 4 rfl) ?_
          refine lv_iconst (v := np_i 1) C.x C.b dd_Chart_countRule_95 rfl ?_
          refine np_iadd C dd_Chart_countRule_96 ?_
          refine np_icmp_le (tgt := 124) C dd_Chart_countRule_97 (by decide) hf (fun _ hf => ?_) (fun _ hf => ?_)
          · exact w_f_Chart_countRule_124 C hQ h22 _ _ _ _ _ _ _ _ _ hf hat (lv_sub hl [1, 2, 3, 4, 5, 6] rfl)
          · refine lv_aload_n C.x C.b dd_Chart_countRule_100 rfl (lv_at hl 1 rfl) ?_
            refine np_get (v := .ref (q 13)) C i_Chart hat.1 11 (nc_o11 _) rfl 2 (by decide) tw_123 rfl rfl dd_Chart_countRule_101 ?_
            refine lv_iload_n C.x C.b dd_Chart_countRule_104 rfl (lv_at hl 3 rfl) ?_
            refine lv_bipush (v := np_i 98) C.x C.b dd_Chart_countRule_105 (by decide +kernel) ?_
            refine np_imul C dd_Chart_countRule_107 ?_
            refine lv_iload C.x C.b dd_Chart_countRule_108 (lv_at hl 6 rfl) ?_
            refine np_iadd C dd_Chart_countRule_110 ?_
            refine lv_aload_n C.x C.b dd_Chart_countRule_111 rfl (lv_at hl 1 rfl) ?_
            refine lv_iload C.x C.b dd_Chart_countRule_112 (lv_at hl 6 rfl) ?_
            refine lv_iconst (v := np_i 1) C.x C.b dd_Chart_countRule_114 rfl ?_
            refine np_isub C dd_Chart_countRule_115 ?_
            refine lv_iload C.x C.b dd_Chart_countRule_116 (lv_at hl 0 rfl) ?_
            refine lv_iload_n C.x C.b dd_Chart_countRule_118 rfl (lv_at hl 2 rfl) ?_
            refine lv_iload_n C.x C.b dd_Chart_countRule_119 rfl (lv_at hl 3 rfl) ?_
            refine np_callVi (As := [.int (np_i (x6 - 1)), .int (np_i (o1.2 2 (x6 - 1))), .int (np_i x2), .int (np_i x3)]) (rest := [.int (np_i ((x3 * 98) + x6)), .ref (q 13)]) C (c_Chart_countSplits l (x6 - 1) (o1.2 2 (x6 - 1)) x2 x3 _) np_allgood tw_812 tw_814 tp_17 tw_5 tw_815 (nA := 4) (by decide +kernel) rfl ⟨rfl, rfl, Nat.le_of_ble_eq_true rfl, Nat.le_of_ble_eq_true rfl⟩ (va_recv C.k hat.1 (ci := 3) (q0 := 11) rfl (nc_o11 _)) hat rfl hl.1 (Nat.le_of_ble_eq_true rfl) dd_Chart_countRule_120 hf (fun o2 H locs hf hat => ?_)
            refine np_iastore C hat 13 (nc_a13 _) 0 rfl (by decide) (nc_s13 _ _ _) dd_Chart_countRule_123 hf (fun H locs hat hf => ?_)
            exact w_f_Chart_countRule_124 C hQ h22 _ _ _ _ _ _ _ _ _ hf hat (lv_sub hl [1, 2, 3, 4, 5, 6] rfl)
        · refine lv_aload_n C.x C.b dd_Chart_countRule_60 rfl (lv_at hl 1 rfl) ?_
          refine np_get (v := .ref (q 13)) C i_Chart hat.1 11 (nc_o11 _) rfl 2 (by decide) tw_123 rfl rfl dd_Chart_countRule_61 ?_
          refine lv_iload_n C.x C.b dd_Chart_countRule_64 rfl (lv_at hl 3 rfl) ?_
          refine lv_bipush (v := np_i 98) C.x C.b dd_Chart_countRule_65 (by decide +kernel) ?_
          refine np_imul C dd_Chart_countRule_67 ?_
          refine lv_iload C.x C.b dd_Chart_countRule_68 (lv_at hl 6 rfl) ?_
          refine np_iadd C dd_Chart_countRule_70 ?_
          refine lv_aload_n C.x C.b dd_Chart_countRule_71 rfl (lv_at hl 1 rfl) ?_
          refine np_get (v := .ref (q 13)) C i_Chart hat.1 11 (nc_o11 _) rfl 2 (by decide) tw_123 rfl rfl dd_Chart_countRule_72 ?_
          refine lv_iload_n C.x C.b dd_Chart_countRule_75 rfl (lv_at hl 3 rfl) ?_
          refine lv_iconst (v := np_i 1) C.x C.b dd_Chart_countRule_76 rfl ?_
          refine np_isub C dd_Chart_countRule_77 ?_
          refine lv_bipush (v := np_i 98) C.x C.b dd_Chart_countRule_78 (by decide +kernel) ?_
          refine np_imul C dd_Chart_countRule_80 ?_
          refine lv_iload C.x C.b dd_Chart_countRule_81 (lv_at hl 6 rfl) ?_
          refine np_iadd C dd_Chart_countRule_83 ?_
          refine lv_iconst (v := np_i 1) C.x C.b dd_Chart_countRule_84 rfl ?_
          refine np_isub C dd_Chart_countRule_85 ?_
          refine np_iaload C hat.1 13 (nc_a13 _) 0 rfl (by decide) dd_Chart_countRule_86 hf (fun hf => ?_)
          refine np_iastore C hat 13 (nc_a13 _) 0 rfl (by decide) (nc_s13 _ _ _) dd_Chart_countRule_87 hf (fun H locs hat hf => ?_)
          refine lv_goto (tgt := 124) C.x C.b dd_Chart_countRule_88 (by decide) ?_
          exact w_f_Chart_countRule_124 C hQ h22 _ _ _ _ _ _ _ _ _ hf hat (lv_sub hl [1, 2, 3, 4, 5, 6] rfl)
set_option maxHeartbeats 4000000 in
set_option maxRecDepth 100000 in
theorem w_f_Chart_countRule (C : np_Cx gA p R s m args c D np_cl (np_ty cA) A np_al "NotationParse$Chart" prog_2_method_15_code 8 { frames := 2, cells := 0, slots := 0, locals := 50 }) (hQ : ∀ (pc : Nat) (ls : Array Slot) (H : Heap) (locs : List Loc) {σ : np_S}, decode prog_2_method_15_code pc = .ok (.return_, 1) → some ((0 : Int), σ) = some out → np_At D np_cl A (nc_wd q cA) s σ H locs → W p l e R s m args below meth c H locs 0 0 Q (F0 m pc ls []))   : ∀ (x1 x2 x3 : Int) (σ : np_S) (H : Heap) (locs : List Loc) (ls : Array Slot), f_Chart_countRule  x1 x2 x3 σ = some out → np_At D np_cl A (nc_wd q cA) s σ H locs → lv_has ls 8 [(0, .ref (q 11)), (1, .int (np_i x1)), (2, .int (np_i x2)), (3, .int (np_i x3))] → W p l e R s m args below meth c H locs 0 0 Q (F0 m 0 ls []) := by
  intro x1 x2 x3 σ H locs ls hf hat hl
  unfold f_Chart_countRule at hf
  refine lv_iload_n C.x C.b dd_Chart_countRule_0 rfl (lv_at hl 1 rfl) ?_
  refine lv_bipush (v := np_i 7) C.x C.b dd_Chart_countRule_1 (by decide +kernel) ?_
  refine np_imul C dd_Chart_countRule_3 ?_
  refine lv_istore (lv' := [(4, .int (np_i (x1 * 7))), (0, .ref (q 11)), (1, .int (np_i x1)), (2, .int (np_i x2)), (3, .int (np_i x3))]) C.x C.b dd_Chart_countRule_4 hl (by decide) rfl (fun ls hl => ?_)
  refine lv_aload_n C.x C.b dd_Chart_countRule_6 rfl (lv_at hl 1 rfl) ?_
  refine np_get (v := .ref (q 1)) C i_Chart hat.1 11 (nc_o11 _) rfl 0 (by decide) tw_121 rfl rfl dd_Chart_countRule_7 ?_
  refine lv_iload_n C.x C.b dd_Chart_countRule_10 rfl (lv_at hl 2 rfl) ?_
  refine np_callVi (As := [.int (np_i x1)]) (rest := []) C (c_Grammar_lastDot l x1 _) np_allgood tw_775 tw_776 tw_777 tw_2 tw_778 (nA := 1) (by decide +kernel) rfl ⟨rfl, rfl, Nat.le_of_ble_eq_true rfl, Nat.le_of_ble_eq_true rfl⟩ (va_recv C.k hat.1 (ci := 1) (q0 := 1) rfl (nc_o1 _)) hat rfl hl.1 (Nat.le_of_ble_eq_true rfl) dd_Chart_countRule_11 hf (fun o3 H locs hf hat => ?_)
  refine lv_istore (lv' := [(5, .int (np_i o3.1)), (4, .int (np_i (x1 * 7))), (0, .ref (q 11)), (1, .int (np_i x1)), (2, .int (np_i x2)), (3, .int (np_i x3))]) C.x C.b dd_Chart_countRule_14 hl (by decide) rfl (fun ls hl => ?_)
  refine lv_iload C.x C.b dd_Chart_countRule_16 (lv_at hl 1 rfl) ?_
  refine lv_iconst (v := np_i 1) C.x C.b dd_Chart_countRule_18 rfl ?_
  refine np_iadd C dd_Chart_countRule_19 ?_
  refine lv_istore (lv' := [(6, .int (np_i ((x1 * 7) + 1))), (5, .int (np_i o3.1)), (4, .int (np_i (x1 * 7))), (0, .ref (q 11)), (1, .int (np_i x1)), (2, .int (np_i x2)), (3, .int (np_i x3))]) C.x C.b dd_Chart_countRule_20 hl (by decide) rfl (fun ls hl => ?_)
  exact w_f_Chart_countRule_22 C hQ  20000 _ _ _ _ _ _ _ _ _ hf hat (lv_sub hl [3, 5, 6, 2, 1, 0] rfl)
set_option maxHeartbeats 4000000 in
set_option maxRecDepth 100000 in
theorem c_Chart_countRule (l : Launch) {gA : Nat → Nat} {D : va_G} {q : Nat → Nat} {cA : Nat → ClassId} (x1 x2 x3 : Int) (σ : np_S) : np_Mv gA l D np_cl (np_ty cA) (nc_wd q cA) yy_Chart_countRule (.code yy_Chart_countRule prog_2_method_15_code 8 none :: np_al) { frames := 2, cells := 0, slots := 0, locals := 50 } [.ref (q 11), .int (np_i x1), .int (np_i x2), .int (np_i x3)] σ (f_Chart_countRule x1 x2 x3 σ) :=
  np_mkv (by decide +kernel) (Nat.le_of_ble_eq_true rfl) (fun o p e R s m args below meth c Q A ls hf C hQ hat hl => w_f_Chart_countRule C hQ x1 x2 x3 σ _ _ _ hf hat (lv_sub hl [0, 1, 2, 3] rfl))
set_option maxHeartbeats 4000000 in
set_option maxRecDepth 100000 in
theorem w_f_Chart_countFrom_46 (C : np_Cx gA p R s m args c D np_cl (np_ty cA) A np_al "NotationParse$Chart" prog_2_method_14_code 5 { frames := 3, cells := 0, slots := 0, locals := 77 }) (hQ : ∀ (pc : Nat) (ls : Array Slot) (H : Heap) (locs : List Loc) {σ : np_S}, decode prog_2_method_14_code pc = .ok (.return_, 1) → some ((0 : Int), σ) = some out → np_At D np_cl A (nc_wd q cA) s σ H locs → W p l e R s m args below meth c H locs 0 0 Q (F0 m pc ls [])) {k38 : (Int → Int → Int → np_S → Option np_O)} (h38 : ∀ (x1 x2 x3 : Int) (σ : np_S) (H : Heap) (locs : List Loc) (ls : Array Slot), k38 x1 x2 x3 σ = some out → np_At D np_cl A (nc_wd q cA) s σ H locs → lv_has ls 5 [(0, .ref (q 11)), (1, .int (np_i x1)), (2, .int (np_i x2)), (3, .int (np_i x3))] → W p l e R s m args below meth c H locs 0 0 Q (F0 m 38 ls [])) : ∀ (n : Nat), ∀ (x1 x2 x3 x4 : Int) (σ : np_S) (H : Heap) (locs : List Loc) (ls : Array Slot), f_Chart_countFrom_46 k38 n x1 x2 x3 x4 σ = some out → np_At D np_cl A (nc_wd q cA) s σ H locs → lv_has ls 5 [(0, .ref (q 11)), (1, .int (np_i x1)), (2, .int (np_i x2)), (3, .int (np_i x3)), (4, .int (np_i x4))] → W p l e R s m args below meth c H locs 0 0 Q (F0 m 46 ls []) := by
  intro n
  induction n with
  | zero => intro x1 x2 x3 x4 σ H locs ls hf; cases hf
  | succ n ih =>
    intro x1 x2 x3 x4 σ H locs ls hf hat hl
    have h46 := ih
    have hf : f_Chart_countFrom_46_b k38 (fun x1 x2 x3 x4 σ => f_Chart_countFrom_46 k38 n x1 x2 x3 x4 σ) x1 x2 x3 x4 σ = some out := hf
    unfold f_Chart_countFrom_46_b at hf
    refine lv_iload C.x C.b dd_Chart_countFrom_46 (lv_at hl 4 rfl) ?_
    refine lv_aload_n C.x C.b dd_Chart_countFrom_48 rfl (lv_at hl 0 rfl) ?_
    refine np_get (v := .ref (q 1)) C i_Chart hat.1 11 (nc_o11 _) rfl 0 (by decide) tw_121 rfl rfl dd_Chart_countFrom_49 ?_
    refine np_get (v := .int (np_i (σ 1 4))) C i_Grammar hat.1 1 (nc_o1 _) rfl 4 (by decide) tw_61 rfl rfl dd_Chart_countFrom_52 ?_
    refine np_icmp_ge (tgt := 72) C dd_Chart_countFrom_55 (by decide) hf (fun _ hf => ?_) (fun _ hf => ?_)
    · refine lv_aload_n C.x C.b dd_Chart_countFrom_72 rfl (lv_at hl 0 rfl) ?_
      refine lv_iload_n C.x C.b dd_Chart_countFrom_73 rfl (lv_at hl 1 rfl) ?_
      refine lv_iload_n C.x C.b dd_Chart_countFrom_74 rfl (lv_at hl 3 rfl) ?_
      refine np_callVv (As := [.int (np_i x1), .int (np_i x3)]) (rest := []) C (c_Chart_sumTerms l x1 x3 _) np_allgood tw_824 tw_826 tp_19 tw_5 tw_827 (nA := 2) (by decide +kernel) rfl ⟨rfl, rfl, Nat.le_of_ble_eq_true rfl, Nat.le_of_ble_eq_true rfl⟩ (va_recv C.k hat.1 (ci := 3) (q0 := 11) rfl (nc_o11 _)) hat rfl hl.1 (Nat.le_of_ble_eq_true rfl) dd_Chart_countFrom_75 hf (fun o1 H locs hf hat => ?_)
      refine lv_aload_n C.x C.b dd_Chart_countFrom_78 rfl (lv_at hl 0 rfl) ?_
      refine lv_iload_n C.x C.b dd_Chart_countFrom_79 rfl (lv_at hl 1 rfl) ?_
      refine lv_iload_n C.x C.b dd_Chart_countFrom_80 rfl (lv_at hl 3 rfl) ?_
      refine np_callVv (As := [.int (np_i x1), .int (np_i x3)]) (rest := []) C (c_Chart_countFirstHoles l x1 x3 _) np_allgood tw_834 tw_836 tp_21 tw_5 tw_837 (nA := 2) (by decide +kernel) rfl ⟨rfl, rfl, Nat.le_of_ble_eq_true rfl, Nat.le_of_ble_eq_true rfl⟩ (va_recv C.k hat.1 (ci := 3) (q0 := 11) rfl (nc_o11 _)) hat rfl hl.1 (Nat.le_of_ble_eq_true rfl) dd_Chart_countFrom_81 hf (fun o2 H locs hf hat => ?_)
      refine lv_iinc (v := np_i (x3 + 1)) (lv' := [(3, .int (np_i (x3 + 1))), (0, .ref (q 11)), (1, .int (np_i x1)), (2, .int (np_i x2)), (4, .int (np_i x4))]) C.x C.b dd_Chart_countFrom_84 hl (k := 3) rfl (np_inc _ _) (by decide) rfl (fun ls hl => ?_)
      refine lv_goto (tgt := 38) C.x C.b dd_Chart_countFrom_87 (by decide) ?_
      exact h38 _ _ _ _ _ _ _ hf hat (lv_sub hl [1, 2, 3, 0] rfl)
    · refine lv_aload_n C.x C.b dd_Chart_countFrom_58 rfl (lv_at hl 0 rfl) ?_
      refine lv_iload C.x C.b dd_Chart_countFrom_59 (lv_at hl 4 rfl) ?_
      refine lv_iload_n C.x C.b dd_Chart_countFrom_61 rfl (lv_at hl 1 rfl) ?_
      refine lv_iload_n C.x C.b dd_Chart_countFrom_62 rfl (lv_at hl 3 rfl) ?_
      refine np_callVv (As := [.int (np_i x4), .int (np_i x1), .int (np_i x3)]) (rest := []) C (c_Chart_countRule l x4 x1 x3 _) np_allgood tw_808 tw_810 tp_16 tw_5 tw_811 (nA := 3) (by decide +kernel) rfl ⟨rfl, rfl, Nat.le_of_ble_eq_true rfl, Nat.le_of_ble_eq_true rfl⟩ (va_recv C.k hat.1 (ci := 3) (q0 := 11) rfl (nc_o11 _)) hat rfl hl.1 (Nat.le_of_ble_eq_true rfl) dd_Chart_countFrom_63 hf (fun o3 H locs hf hat => ?_)
      refine lv_iinc (v := np_i (x4 + 1)) (lv' := [(4, .int (np_i (x4 + 1))), (0, .ref (q 11)), (1, .int (np_i x1)), (2, .int (np_i x2)), (3, .int (np_i x3))]) C.x C.b dd_Chart_countFrom_66 hl (k := 4) rfl (np_inc _ _) (by decide) rfl (fun ls hl => ?_)
      refine lv_goto (tgt := 46) C.x C.b dd_Chart_countFrom_69 (by decide) ?_
      exact h46 _ _ _ _ _ _ _ _ hf hat (lv_sub hl [1, 2, 3, 4, 0] rfl)
set_option maxHeartbeats 4000000 in
set_option maxRecDepth 100000 in
theorem w_f_Chart_countFrom_38 (C : np_Cx gA p R s m args c D np_cl (np_ty cA) A np_al "NotationParse$Chart" prog_2_method_14_code 5 { frames := 3, cells := 0, slots := 0, locals := 77 }) (hQ : ∀ (pc : Nat) (ls : Array Slot) (H : Heap) (locs : List Loc) {σ : np_S}, decode prog_2_method_14_code pc = .ok (.return_, 1) → some ((0 : Int), σ) = some out → np_At D np_cl A (nc_wd q cA) s σ H locs → W p l e R s m args below meth c H locs 0 0 Q (F0 m pc ls []))   : ∀ (n : Nat), ∀ (x1 x2 x3 : Int) (σ : np_S) (H : Heap) (locs : List Loc) (ls : Array Slot), f_Chart_countFrom_38  n x1 x2 x3 σ = some out → np_At D np_cl A (nc_wd q cA) s σ H locs → lv_has ls 5 [(0, .ref (q 11)), (1, .int (np_i x1)), (2, .int (np_i x2)), (3, .int (np_i x3))] → W p l e R s m args below meth c H locs 0 0 Q (F0 m 38 ls []) := by
  intro n
  induction n with
  | zero => intro x1 x2 x3 σ H locs ls hf; cases hf
  | succ n ih =>
    intro x1 x2 x3 σ H locs ls hf hat hl
    have h38 := ih
    have hf : f_Chart_countFrom_38_b  (fun x1 x2 x3 σ => f_Chart_countFrom_38  n x1 x2 x3 σ) x1 x2 x3 σ = some out := hf
    unfold f_Chart_countFrom_38_b at hf
    refine lv_iload_n C.x C.b dd_Chart_countFrom_38 rfl (lv_at hl 3 rfl) ?_
    refine lv_iload_n C.x C.b dd_Chart_countFrom_39 rfl (lv_at hl 2 rfl) ?_
    refine np_icmp_gt (tgt := 90) C dd_Chart_countFrom_40 (by decide) hf (fun _ hf => ?_) (fun _ hf => ?_)
    · exact hQ _ _ _ _ dd_Chart_countFrom_90 hf hat
    · refine lv_iconst (v := np_i 0) C.x C.b dd_Chart_countFrom_43 rfl ?_
      refine lv_istore (lv' := [(4, .int (np_i 0)), (0, .ref (q 11)), (1, .int (np_i x1)), (2, .int (np_i x2)), (3, .int (np_i x3))]) C.x C.b dd_Chart_countFrom_44 hl (by decide) rfl (fun ls hl => ?_)
      exact w_f_Chart_countFrom_46 C hQ h38 20000 _ _ _ _ _ _ _ _ hf hat (lv_sub hl [1, 2, 3, 4, 0] rfl)
set_option maxHeartbeats 4000000 in
set_option maxRecDepth 100000 in
theorem w_f_Chart_countFrom_2 (C : np_Cx gA p R s m args c D np_cl (np_ty cA) A np_al "NotationParse$Chart" prog_2_method_14_code 5 { frames := 3, cells := 0, slots := 0, locals := 77 }) (hQ : ∀ (pc : Nat) (ls : Array Slot) (H : Heap) (locs : List Loc) {σ : np_S}, decode prog_2_method_14_code pc = .ok (.return_, 1) → some ((0 : Int), σ) = some out → np_At D np_cl A (nc_wd q cA) s σ H locs → W p l e R s m args below meth c H locs 0 0 Q (F0 m pc ls []))   : ∀ (n : Nat), ∀ (x1 x2 x3 : Int) (σ : np_S) (H : Heap) (locs : List Loc) (ls : Array Slot), f_Chart_countFrom_2  n x1 x2 x3 σ = some out → np_At D np_cl A (nc_wd q cA) s σ H locs → lv_has ls 5 [(0, .ref (q 11)), (1, .int (np_i x1)), (2, .int (np_i x2)), (3, .int (np_i x3))] → W p l e R s m args below meth c H locs 0 0 Q (F0 m 2 ls []) := by
  intro n
  induction n with
  | zero => intro x1 x2 x3 σ H locs ls hf; cases hf
  | succ n ih =>
    intro x1 x2 x3 σ H locs ls hf hat hl
    have h2 := ih
    have hf : f_Chart_countFrom_2_b  (fun x1 x2 x3 σ => f_Chart_countFrom_2  n x1 x2 x3 σ) x1 x2 x3 σ = some out := hf
    unfold f_Chart_countFrom_2_b at hf
    refine lv_iload_n C.x C.b dd_Chart_countFrom_2 rfl (lv_at hl 3 rfl) ?_
    refine lv_aload_n C.x C.b dd_Chart_countFrom_3 rfl (lv_at hl 0 rfl) ?_
    refine np_get (v := .ref (q 1)) C i_Chart hat.1 11 (nc_o11 _) rfl 0 (by decide) tw_121 rfl rfl dd_Chart_countFrom_4 ?_
    refine np_get (v := .int (np_i (σ 1 4))) C i_Grammar hat.1 1 (nc_o1 _) rfl 4 (by decide) tw_61 rfl rfl dd_Chart_countFrom_7 ?_
    refine np_icmp_ge (tgt := 34) C dd_Chart_countFrom_10 (by decide) hf (fun _ hf => ?_) (fun _ hf => ?_)
    · refine lv_iload_n C.x C.b dd_Chart_countFrom_34 rfl (lv_at hl 1 rfl) ?_
      refine lv_iconst (v := np_i 1) C.x C.b dd_Chart_countFrom_35 rfl ?_
      refine np_iadd C dd_Chart_countFrom_36 ?_
      refine lv_istore_n (lv' := [(3, .int (np_i (x1 + 1))), (0, .ref (q 11)), (1, .int (np_i x1)), (2, .int (np_i x2))]) C.x C.b dd_Chart_countFrom_37 rfl hl (by decide) rfl (fun ls hl => ?_)
      exact w_f_Chart_countFrom_38 C hQ  20000 _ _ _ _ _ _ _ hf hat (lv_sub hl [1, 2, 3, 0] rfl)
    · refine lv_aload_n C.x C.b dd_Chart_countFrom_13 rfl (lv_at hl 0 rfl) ?_
      refine np_get (v := .ref (q 13)) C i_Chart hat.1 11 (nc_o11 _) rfl 2 (by decide) tw_123 rfl rfl dd_Chart_countFrom_14 ?_
      refine lv_iload_n C.x C.b dd_Chart_countFrom_17 rfl (lv_at hl 1 rfl) ?_
      refine lv_bipush (v := np_i 98) C.x C.b dd_Chart_countFrom_18 (by decide +kernel) ?_
      refine np_imul C dd_Chart_countFrom_20 ?_
      refine lv_iload_n C.x C.b dd_Chart_countFrom_21 rfl (lv_at hl 3 rfl) ?_
      refine lv_bipush (v := np_i 7) C.x C.b dd_Chart_countFrom_22 (by decide +kernel) ?_
      refine np_imul C dd_Chart_countFrom_24 ?_
      refine np_iadd C dd_Chart_countFrom_25 ?_
      refine lv_iconst (v := np_i 1) C.x C.b dd_Chart_countFrom_26 rfl ?_
      refine np_iastore C hat 13 (nc_a13 _) 0 rfl (by decide) (nc_s13 _ _ _) dd_Chart_countFrom_27 hf (fun H locs hat hf => ?_)
      refine lv_iinc (v := np_i (x3 + 1)) (lv' := [(3, .int (np_i (x3 + 1))), (0, .ref (q 11)), (1, .int (np_i x1)), (2, .int (np_i x2))]) C.x C.b dd_Chart_countFrom_28 hl (k := 3) rfl (np_inc _ _) (by decide) rfl (fun ls hl => ?_)
      refine lv_goto (tgt := 2) C.x C.b dd_Chart_countFrom_31 (by decide) ?_
      exact h2 _ _ _ _ _ _ _ hf hat (lv_sub hl [1, 2, 3, 0] rfl)
set_option maxHeartbeats 4000000 in
set_option maxRecDepth 100000 in
theorem w_f_Chart_countFrom (C : np_Cx gA p R s m args c D np_cl (np_ty cA) A np_al "NotationParse$Chart" prog_2_method_14_code 5 { frames := 3, cells := 0, slots := 0, locals := 77 }) (hQ : ∀ (pc : Nat) (ls : Array Slot) (H : Heap) (locs : List Loc) {σ : np_S}, decode prog_2_method_14_code pc = .ok (.return_, 1) → some ((0 : Int), σ) = some out → np_At D np_cl A (nc_wd q cA) s σ H locs → W p l e R s m args below meth c H locs 0 0 Q (F0 m pc ls []))   : ∀ (x1 x2 : Int) (σ : np_S) (H : Heap) (locs : List Loc) (ls : Array Slot), f_Chart_countFrom  x1 x2 σ = some out → np_At D np_cl A (nc_wd q cA) s σ H locs → lv_has ls 5 [(0, .ref (q 11)), (1, .int (np_i x1)), (2, .int (np_i x2))] → W p l e R s m args below meth c H locs 0 0 Q (F0 m 0 ls []) := by
  intro x1 x2 σ H locs ls hf hat hl
  unfold f_Chart_countFrom at hf
  refine lv_iconst (v := np_i 0) C.x C.b dd_Chart_countFrom_0 rfl ?_
  refine lv_istore_n (lv' := [(3, .int (np_i 0)), (0, .ref (q 11)), (1, .int (np_i x1)), (2, .int (np_i x2))]) C.x C.b dd_Chart_countFrom_1 rfl hl (by decide) rfl (fun ls hl => ?_)
  exact w_f_Chart_countFrom_2 C hQ  20000 _ _ _ _ _ _ _ hf hat (lv_sub hl [1, 2, 3, 0] rfl)
set_option maxHeartbeats 4000000 in
set_option maxRecDepth 100000 in
theorem c_Chart_countFrom (l : Launch) {gA : Nat → Nat} {D : va_G} {q : Nat → Nat} {cA : Nat → ClassId} (x1 x2 : Int) (σ : np_S) : np_Mv gA l D np_cl (np_ty cA) (nc_wd q cA) yy_Chart_countFrom (.code yy_Chart_countFrom prog_2_method_14_code 5 none :: np_al) { frames := 3, cells := 0, slots := 0, locals := 77 } [.ref (q 11), .int (np_i x1), .int (np_i x2)] σ (f_Chart_countFrom x1 x2 σ) :=
  np_mkv (by decide +kernel) (Nat.le_of_ble_eq_true rfl) (fun o p e R s m args below meth c Q A ls hf C hQ hat hl => w_f_Chart_countFrom C hQ x1 x2 σ _ _ _ hf hat (lv_sub hl [0, 1, 2] rfl))
end NW3
