section NW4
variable {p : Program} {l : Launch} {e : Env} {R : Room} {s : State} {m : MethodId} {args : Array Value} {below : List Frame} {meth : Method} {c : Code} {Q : State → Prop} {D : va_G} {A : Nat → Prop} {q : Nat → Nat} {cA : Nat → ClassId} {out : np_O} {gA : Nat → Nat}
set_option maxHeartbeats 4000000 in
set_option maxRecDepth 100000 in
theorem w_f_Tree_growNode (C : np_Cx gA p R s m args c D np_cl (np_ty cA) A np_al "NotationParse$Tree" prog_7_method_5_code 4 { frames := 3, cells := 0, slots := 0, locals := 77 }) (hQ : ∀ (pc : Nat) (ls : Array Slot) (H : Heap) (locs : List Loc) {σ : np_S}, decode prog_7_method_5_code pc = .ok (.return_, 1) → some ((0 : Int), σ) = some out → np_At D np_cl A (nc_wd q cA) s σ H locs → W p l e R s m args below meth c H locs 0 0 Q (F0 m pc ls []))   : ∀ (x1 x2 x3 : Int) (σ : np_S) (H : Heap) (locs : List Loc) (ls : Array Slot), f_Tree_growNode  x1 x2 x3 σ = some out → np_At D np_cl A (nc_wd q cA) s σ H locs → lv_has ls 4 [(0, .ref (q 15)), (1, .int (np_i x1)), (2, .int (np_i x2)), (3, .int (np_i x3))] → W p l e R s m args below meth c H locs 0 0 Q (F0 m 0 ls []) := by
  intro x1 x2 x3 σ H locs ls hf hat hl
  unfold f_Tree_growNode at hf
  refine lv_aload_n C.x C.b dd_Tree_growNode_0 rfl (lv_at hl 0 rfl) ?_
  refine np_get (v := .ref (q 16)) C i_Tree hat.1 15 (nc_o15 _) rfl 3 (by decide) tw_144 rfl rfl dd_Tree_growNode_1 ?_
  refine lv_iload_n C.x C.b dd_Tree_growNode_4 rfl (lv_at hl 1 rfl) ?_
  refine lv_aload_n C.x C.b dd_Tree_growNode_5 rfl (lv_at hl 0 rfl) ?_
  refine np_get (v := .ref (q 11)) C i_Tree hat.1 15 (nc_o15 _) rfl 1 (by decide) tw_141 rfl rfl dd_Tree_growNode_6 ?_
  refine lv_iload_n C.x C.b dd_Tree_growNode_9 rfl (lv_at hl 2 rfl) ?_
  refine lv_iload_n C.x C.b dd_Tree_growNode_10 rfl (lv_at hl 3 rfl) ?_
  refine lv_aload_n C.x C.b dd_Tree_growNode_11 rfl (lv_at hl 0 rfl) ?_
  refine np_get (v := .ref (q 24)) C i_Tree hat.1 15 (nc_o15 _) rfl 12 (by decide) tw_158 rfl rfl dd_Tree_growNode_12 ?_
  refine lv_aload_n C.x C.b dd_Tree_growNode_15 rfl (lv_at hl 0 rfl) ?_
  refine np_get (v := .int (np_i (σ 15 9))) C i_Tree hat.1 15 (nc_o15 _) rfl 9 (by decide) tw_155 rfl rfl dd_Tree_growNode_16 ?_
  refine np_iaload C hat.1 24 (nc_a24 _) 0 rfl (by decide) dd_Tree_growNode_19 hf (fun hf => ?_)
  refine np_callVi (As := [.int (np_i x2), .int (np_i x3), .int (np_i (σ 24 (σ 15 9)))]) (rest := [.int (np_i x1), .ref (q 16)]) C (c_Chart_onlyRule l x2 x3 (σ 24 (σ 15 9)) _) np_allgood tw_850 tw_851 tw_852 tw_5 tw_853 (nA := 3) (by decide +kernel) rfl ⟨rfl, rfl, Nat.le_of_ble_eq_true rfl, Nat.le_of_ble_eq_true rfl⟩ (va_recv C.k hat.1 (ci := 3) (q0 := 11) rfl (nc_o11 _)) hat rfl hl.1 (Nat.le_of_ble_eq_true rfl) dd_Tree_growNode_20 hf (fun o1 H locs hf hat => ?_)
  refine np_iastore C hat 16 (nc_a16 _) 0 rfl (by decide) (nc_s16 _ _ _) dd_Tree_growNode_23 hf (fun H locs hat hf => ?_)
  refine lv_aload_n C.x C.b dd_Tree_growNode_24 rfl (lv_at hl 0 rfl) ?_
  refine np_get (v := .ref (q 18)) C i_Tree hat.1 15 (nc_o15 _) rfl 5 (by decide) tw_148 rfl rfl dd_Tree_growNode_25 ?_
  refine lv_iload_n C.x C.b dd_Tree_growNode_28 rfl (lv_at hl 1 rfl) ?_
  refine lv_iload_n C.x C.b dd_Tree_growNode_29 rfl (lv_at hl 2 rfl) ?_
  refine np_iastore C hat 18 (nc_a18 _) 0 rfl (by decide) (nc_s18 _ _ _) dd_Tree_growNode_30 hf (fun H locs hat hf => ?_)
  refine lv_aload_n C.x C.b dd_Tree_growNode_31 rfl (lv_at hl 0 rfl) ?_
  refine np_get (v := .ref (q 19)) C i_Tree hat.1 15 (nc_o15 _) rfl 6 (by decide) tw_150 rfl rfl dd_Tree_growNode_32 ?_
  refine lv_iload_n C.x C.b dd_Tree_growNode_35 rfl (lv_at hl 1 rfl) ?_
  refine lv_iload_n C.x C.b dd_Tree_growNode_36 rfl (lv_at hl 3 rfl) ?_
  refine lv_iload_n C.x C.b dd_Tree_growNode_37 rfl (lv_at hl 2 rfl) ?_
  refine np_isub C dd_Tree_growNode_38 ?_
  refine np_iastore C hat 19 (nc_a19 _) 0 rfl (by decide) (nc_s19 _ _ _) dd_Tree_growNode_39 hf (fun H locs hat hf => ?_)
  refine lv_aload_n C.x C.b dd_Tree_growNode_40 rfl (lv_at hl 0 rfl) ?_
  refine np_get (v := .ref (q 20)) C i_Tree hat.1 15 (nc_o15 _) rfl 7 (by decide) tw_152 rfl rfl dd_Tree_growNode_41 ?_
  refine lv_iload_n C.x C.b dd_Tree_growNode_44 rfl (lv_at hl 1 rfl) ?_
  refine lv_aload_n C.x C.b dd_Tree_growNode_45 rfl (lv_at hl 0 rfl) ?_
  refine np_get (v := .ref (q 25)) C i_Tree hat.1 15 (nc_o15 _) rfl 13 (by decide) tw_159 rfl rfl dd_Tree_growNode_46 ?_
  refine lv_aload_n C.x C.b dd_Tree_growNode_49 rfl (lv_at hl 0 rfl) ?_
  refine np_get (v := .int (np_i ((np_st (np_st (np_st o1.2 16 x1 o1.1) 18 x1 x2) 19 x1 (x3 - x2)) 15 9))) C i_Tree hat.1 15 (nc_o15 _) rfl 9 (by decide) tw_155 rfl rfl dd_Tree_growNode_50 ?_
  refine np_iaload C hat.1 25 (nc_a25 _) 0 rfl (by decide) dd_Tree_growNode_53 hf (fun hf => ?_)
  refine np_iastore C hat 20 (nc_a20 _) 0 rfl (by decide) (nc_s20 _ _ _) dd_Tree_growNode_54 hf (fun H locs hat hf => ?_)
  refine lv_aload_n C.x C.b dd_Tree_growNode_55 rfl (lv_at hl 0 rfl) ?_
  refine np_get (v := .ref (q 21)) C i_Tree hat.1 15 (nc_o15 _) rfl 8 (by decide) tw_154 rfl rfl dd_Tree_growNode_56 ?_
  refine lv_iload_n C.x C.b dd_Tree_growNode_59 rfl (lv_at hl 1 rfl) ?_
  refine lv_aload_n C.x C.b dd_Tree_growNode_60 rfl (lv_at hl 0 rfl) ?_
  refine np_get (v := .ref (q 24)) C i_Tree hat.1 15 (nc_o15 _) rfl 12 (by decide) tw_158 rfl rfl dd_Tree_growNode_61 ?_
  refine lv_aload_n C.x C.b dd_Tree_growNode_64 rfl (lv_at hl 0 rfl) ?_
  refine np_get (v := .int (np_i ((np_st (np_st (np_st (np_st o1.2 16 x1 o1.1) 18 x1 x2) 19 x1 (x3 - x2)) 20 x1 ((np_st (np_st (np_st o1.2 16 x1 o1.1) 18 x1 x2) 19 x1 (x3 - x2)) 25 ((np_st (np_st (np_st o1.2 16 x1 o1.1) 18 x1 x2) 19 x1 (x3 - x2)) 15 9))) 15 9))) C i_Tree hat.1 15 (nc_o15 _) rfl 9 (by decide) tw_155 rfl rfl dd_Tree_growNode_65 ?_
  refine np_iaload C hat.1 24 (nc_a24 _) 0 rfl (by decide) dd_Tree_growNode_68 hf (fun hf => ?_)
  refine np_iastore C hat 21 (nc_a21 _) 0 rfl (by decide) (nc_s21 _ _ _) dd_Tree_growNode_69 hf (fun H locs hat hf => ?_)
  refine lv_aload_n C.x C.b dd_Tree_growNode_70 rfl (lv_at hl 0 rfl) ?_
  refine np_get (v := .ref (q 17)) C i_Tree hat.1 15 (nc_o15 _) rfl 4 (by decide) tw_146 rfl rfl dd_Tree_growNode_71 ?_
  refine lv_iload_n C.x C.b dd_Tree_growNode_74 rfl (lv_at hl 1 rfl) ?_
  refine lv_aload_n C.x C.b dd_Tree_growNode_75 rfl (lv_at hl 0 rfl) ?_
  refine lv_iload_n C.x C.b dd_Tree_growNode_76 rfl (lv_at hl 1 rfl) ?_
  refine lv_iload_n C.x C.b dd_Tree_growNode_77 rfl (lv_at hl 2 rfl) ?_
  refine lv_iload_n C.x C.b dd_Tree_growNode_78 rfl (lv_at hl 3 rfl) ?_
  refine np_callVi (As := [.int (np_i x1), .int (np_i x2), .int (np_i x3)]) (rest := [.int (np_i x1), .ref (q 17)]) C (c_Tree_awaitHoles l x1 x2 x3 _) np_allgood tw_854 tw_856 tp_24 tw_6 tw_857 (nA := 3) (by decide +kernel) rfl ⟨rfl, rfl, Nat.le_of_ble_eq_true rfl, Nat.le_of_ble_eq_true rfl⟩ (va_recv C.k hat.1 (ci := 4) (q0 := 15) rfl (nc_o15 _)) hat rfl hl.1 (Nat.le_of_ble_eq_true rfl) dd_Tree_growNode_79 hf (fun o2 H locs hf hat => ?_)
  refine np_iastore C hat 17 (nc_a17 _) 0 rfl (by decide) (nc_s17 _ _ _) dd_Tree_growNode_82 hf (fun H locs hat hf => ?_)
  exact hQ _ _ _ _ dd_Tree_growNode_83 hf hat
set_option maxHeartbeats 4000000 in
set_option maxRecDepth 100000 in
theorem c_Tree_growNode (l : Launch) {gA : Nat → Nat} {D : va_G} {q : Nat → Nat} {cA : Nat → ClassId} (x1 x2 x3 : Int) (σ : np_S) : np_Mv gA l D np_cl (np_ty cA) (nc_wd q cA) yy_Tree_growNode (.code yy_Tree_growNode prog_7_method_5_code 4 none :: np_al) { frames := 3, cells := 0, slots := 0, locals := 77 } [.ref (q 15), .int (np_i x1), .int (np_i x2), .int (np_i x3)] σ (f_Tree_growNode x1 x2 x3 σ) :=
  np_mkv (by decide +kernel) (Nat.le_of_ble_eq_true rfl) (fun o p e R s m args below meth c Q A ls hf C hQ hat hl => w_f_Tree_growNode C hQ x1 x2 x3 σ _ _ _ hf hat (lv_sub hl [0, 1, 2, 3] rfl))
set_option maxHeartbeats 4000000 in
set_option maxRecDepth 100000 in
theorem w_f_Tree_grow_82 (C : np_Cx gA p R s m args c D np_cl (np_ty cA) A np_al "NotationParse$Tree" prog_7_method_3_code 3 { frames := 4, cells := 0, slots := 0, locals := 100 }) (hQ : ∀ (pc : Nat) (ls : Array Slot) (H : Heap) (locs : List Loc) {σ : np_S}, decode prog_7_method_3_code pc = .ok (.return_, 1) → some ((0 : Int), σ) = some out → np_At D np_cl A (nc_wd q cA) s σ H locs → W p l e R s m args below meth c H locs 0 0 Q (F0 m pc ls []))   : ∀ (σ : np_S) (H : Heap) (locs : List Loc) (ls : Array Slot), f_Tree_grow_82  σ = some out → np_At D np_cl A (nc_wd q cA) s σ H locs → lv_has ls 3 [] → W p l e R s m args below meth c H locs 0 0 Q (F0 m 82 ls []) := by
  intro σ H locs ls hf hat hl
  unfold f_Tree_grow_82 at hf
  exact hQ _ _ _ _ dd_Tree_grow_82 hf hat
set_option maxHeartbeats 4000000 in
set_option maxRecDepth 100000 in
theorem w_f_Tree_grow_20 (C : np_Cx gA p R s m args c D np_cl (np_ty cA) A np_al "NotationParse$Tree" prog_7_method_3_code 3 { frames := 4, cells := 0, slots := 0, locals := 100 }) (hQ : ∀ (pc : Nat) (ls : Array Slot) (H : Heap) (locs : List Loc) {σ : np_S}, decode prog_7_method_3_code pc = .ok (.return_, 1) → some ((0 : Int), σ) = some out → np_At D np_cl A (nc_wd q cA) s σ H locs → W p l e R s m args below meth c H locs 0 0 Q (F0 m pc ls []))   : ∀ (n : Nat), ∀ (x2 : Int) (σ : np_S) (H : Heap) (locs : List Loc) (ls : Array Slot), f_Tree_grow_20  n x2 σ = some out → np_At D np_cl A (nc_wd q cA) s σ H locs → lv_has ls 3 [(0, .ref (q 15)), (2, .int (np_i x2))] → W p l e R s m args below meth c H locs 0 0 Q (F0 m 20 ls []) := by
  intro n
  induction n with
  | zero => intro x2 σ H locs ls hf; cases hf
  | succ n ih =>
    intro x2 σ H locs ls hf hat hl
    have h20 := ih
    have hf : f_Tree_grow_20_b  (fun x2 σ => f_Tree_grow_20  n x2 σ) x2 σ = some out := hf
    unfold f_Tree_grow_20_b at hf
    refine lv_iload_n C.x C.b dd_Tree_grow_20 rfl (lv_at hl 1 rfl) ?_
    refine lv_bipush (v := np_i 30) C.x C.b dd_Tree_grow_21 (by decide +kernel) ?_
    refine np_icmp_ge (tgt := 82) C dd_Tree_grow_23 (by decide) hf (fun _ hf => ?_) (fun _ hf => ?_)
    · exact w_f_Tree_grow_82 C hQ   _ _ _ _ hf hat (lv_sub hl [] rfl)
    · refine lv_aload_n C.x C.b dd_Tree_grow_26 rfl (lv_at hl 0 rfl) ?_
      refine np_get (v := .int (np_i (σ 15 9))) C i_Tree hat.1 15 (nc_o15 _) rfl 9 (by decide) tw_155 rfl rfl dd_Tree_grow_27 ?_
      refine np_if_le (tgt := 82) C dd_Tree_grow_30 (by decide) hf (fun _ hf => ?_) (fun _ hf => ?_)
      · exact w_f_Tree_grow_82 C hQ   _ _ _ _ hf hat (lv_sub hl [] rfl)
      · refine lv_aload_n C.x C.b dd_Tree_grow_33 rfl (lv_at hl 0 rfl) ?_
        refine lv_dup C.x C.b dd_Tree_grow_34 rfl ?_
        refine np_get (v := .int (np_i (σ 15 9))) C i_Tree hat.1 15 (nc_o15 _) rfl 9 (by decide) tw_155 rfl rfl dd_Tree_grow_35 ?_
        refine lv_iconst (v := np_i 1) C.x C.b dd_Tree_grow_38 rfl ?_
        refine np_isub C dd_Tree_grow_39 ?_
        refine np_put C i_Tree t_Tree tok_Tree n_Tree hat 15 (nc_o15 _) rfl 9 (by decide) tw_155 rfl rfl (by decide +kernel) (np_narI ((σ 15 9) - 1)) (np_fitI ((σ 15 9) - 1)) (Nat.le_of_ble_eq_true rfl) (nc_s15_9 _ _) dd_Tree_grow_40 (fun H locs hat => ?_)
        refine lv_aload_n C.x C.b dd_Tree_grow_43 rfl (lv_at hl 0 rfl) ?_
        refine lv_iload_n C.x C.b dd_Tree_grow_44 rfl (lv_at hl 1 rfl) ?_
        refine lv_aload_n C.x C.b dd_Tree_grow_45 rfl (lv_at hl 0 rfl) ?_
        refine np_get (v := .ref (q 22)) C i_Tree hat.1 15 (nc_o15 _) rfl 10 (by decide) tw_156 rfl rfl dd_Tree_grow_46 ?_
        refine lv_aload_n C.x C.b dd_Tree_grow_49 rfl (lv_at hl 0 rfl) ?_
        refine np_get (v := .int (np_i ((np_st σ 15 9 ((σ 15 9) - 1)) 15 9))) C i_Tree hat.1 15 (nc_o15 _) rfl 9 (by decide) tw_155 rfl rfl dd_Tree_grow_50 ?_
        refine np_iaload C hat.1 22 (nc_a22 _) 0 rfl (by decide) dd_Tree_grow_53 hf (fun hf => ?_)
        refine lv_aload_n C.x C.b dd_Tree_grow_54 rfl (lv_at hl 0 rfl) ?_
        refine np_get (v := .ref (q 23)) C i_Tree hat.1 15 (nc_o15 _) rfl 11 (by decide) tw_157 rfl rfl dd_Tree_grow_55 ?_
        refine lv_aload_n C.x C.b dd_Tree_grow_58 rfl (lv_at hl 0 rfl) ?_
        refine np_get (v := .int (np_i ((np_st σ 15 9 ((σ 15 9) - 1)) 15 9))) C i_Tree hat.1 15 (nc_o15 _) rfl 9 (by decide) tw_155 rfl rfl dd_Tree_grow_59 ?_
        refine np_iaload C hat.1 23 (nc_a23 _) 0 rfl (by decide) dd_Tree_grow_62 hf (fun hf => ?_)
        refine np_callVv (As := [.int (np_i x2), .int (np_i ((np_st σ 15 9 ((σ 15 9) - 1)) 22 ((np_st σ 15 9 ((σ 15 9) - 1)) 15 9))), .int (np_i ((np_st σ 15 9 ((σ 15 9) - 1)) 23 ((np_st σ 15 9 ((σ 15 9) - 1)) 15 9)))]) (rest := []) C (c_Tree_growNode l x2 ((np_st σ 15 9 ((σ 15 9) - 1)) 22 ((np_st σ 15 9 ((σ 15 9) - 1)) 15 9)) ((np_st σ 15 9 ((σ 15 9) - 1)) 23 ((np_st σ 15 9 ((σ 15 9) - 1)) 15 9)) _) np_allgood tw_846 tw_848 tp_23 tw_6 tw_849 (nA := 3) (by decide +kernel) rfl ⟨rfl, rfl, Nat.le_of_ble_eq_true rfl, Nat.le_of_ble_eq_true rfl⟩ (va_recv C.k hat.1 (ci := 4) (q0 := 15) rfl (nc_o15 _)) hat rfl hl.1 (Nat.le_of_ble_eq_true rfl) dd_Tree_grow_63 hf (fun o1 H locs hf hat => ?_)
        refine lv_aload_n C.x C.b dd_Tree_grow_66 rfl (lv_at hl 0 rfl) ?_
        refine lv_dup C.x C.b dd_Tree_grow_67 rfl ?_
        refine np_get (v := .int (np_i (o1.2 15 2))) C i_Tree hat.1 15 (nc_o15 _) rfl 2 (by decide) tw_142 rfl rfl dd_Tree_grow_68 ?_
        refine lv_iconst (v := np_i 1) C.x C.b dd_Tree_grow_71 rfl ?_
        refine np_iadd C dd_Tree_grow_72 ?_
        refine np_put C i_Tree t_Tree tok_Tree n_Tree hat 15 (nc_o15 _) rfl 2 (by decide) tw_142 rfl rfl (by decide +kernel) (np_narI ((o1.2 15 2) + 1)) (np_fitI ((o1.2 15 2) + 1)) (Nat.le_of_ble_eq_true rfl) (nc_s15_2 _ _) dd_Tree_grow_73 (fun H locs hat => ?_)
        refine lv_iinc (v := np_i (x2 + 1)) (lv' := [(2, .int (np_i (x2 + 1))), (0, .ref (q 15))]) C.x C.b dd_Tree_grow_76 hl (k := 1) rfl (np_inc _ _) (by decide) rfl (fun ls hl => ?_)
        refine lv_goto (tgt := 20) C.x C.b dd_Tree_grow_79 (by decide) ?_
        exact h20 _ _ _ _ _ hf hat (lv_sub hl [1, 0] rfl)
set_option maxHeartbeats 4000000 in
set_option maxRecDepth 100000 in
theorem w_f_Tree_grow (C : np_Cx gA p R s m args c D np_cl (np_ty cA) A np_al "NotationParse$Tree" prog_7_method_3_code 3 { frames := 4, cells := 0, slots := 0, locals := 100 }) (hQ : ∀ (pc : Nat) (ls : Array Slot) (H : Heap) (locs : List Loc) {σ : np_S}, decode prog_7_method_3_code pc = .ok (.return_, 1) → some ((0 : Int), σ) = some out → np_At D np_cl A (nc_wd q cA) s σ H locs → W p l e R s m args below meth c H locs 0 0 Q (F0 m pc ls []))   : ∀ (x1 : Int) (σ : np_S) (H : Heap) (locs : List Loc) (ls : Array Slot), f_Tree_grow  x1 σ = some out → np_At D np_cl A (nc_wd q cA) s σ H locs → lv_has ls 3 [(0, .ref (q 15)), (1, .int (np_i x1))] → W p l e R s m args below meth c H locs 0 0 Q (F0 m 0 ls []) := by
  intro x1 σ H locs ls hf hat hl
  unfold f_Tree_grow at hf
  refine lv_aload_n C.x C.b dd_Tree_grow_0 rfl (lv_at hl 0 rfl) ?_
  refine lv_iconst (v := np_i 0) C.x C.b dd_Tree_grow_1 rfl ?_
  refine np_put C i_Tree t_Tree tok_Tree n_Tree hat 15 (nc_o15 _) rfl 2 (by decide) tw_142 rfl rfl (by decide +kernel) (np_narI 0) (np_fitI 0) (Nat.le_of_ble_eq_true rfl) (nc_s15_2 _ _) dd_Tree_grow_2 (fun H locs hat => ?_)
  refine lv_aload_n C.x C.b dd_Tree_grow_5 rfl (lv_at hl 0 rfl) ?_
  refine lv_iconst (v := np_i 0) C.x C.b dd_Tree_grow_6 rfl ?_
  refine np_put C i_Tree t_Tree tok_Tree n_Tree hat 15 (nc_o15 _) rfl 9 (by decide) tw_155 rfl rfl (by decide +kernel) (np_narI 0) (np_fitI 0) (Nat.le_of_ble_eq_true rfl) (nc_s15_9 _ _) dd_Tree_grow_7 (fun H locs hat => ?_)
  refine lv_aload_n C.x C.b dd_Tree_grow_10 rfl (lv_at hl 0 rfl) ?_
  refine lv_iconst (v := np_i 0) C.x C.b dd_Tree_grow_11 rfl ?_
  refine lv_iload_n C.x C.b dd_Tree_grow_12 rfl (lv_at hl 1 rfl) ?_
  refine lv_iconst (v := np_i 0) C.x C.b dd_Tree_grow_13 rfl ?_
  refine lv_iconst (v := np_i (-1)) C.x C.b dd_Tree_grow_14 rfl ?_
  refine np_callVv (As := [.int (np_i 0), .int (np_i x1), .int (np_i 0), .int (np_i ((-1)))]) (rest := []) C (c_Tree_await l 0 x1 0 ((-1)) _) np_allgood tw_842 tw_844 tp_22 tw_6 tw_845 (nA := 4) (by decide +kernel) rfl ⟨rfl, rfl, Nat.le_of_ble_eq_true rfl, Nat.le_of_ble_eq_true rfl⟩ (va_recv C.k hat.1 (ci := 4) (q0 := 15) rfl (nc_o15 _)) hat rfl hl.1 (Nat.le_of_ble_eq_true rfl) dd_Tree_grow_15 hf (fun o2 H locs hf hat => ?_)
  refine lv_iconst (v := np_i 0) C.x C.b dd_Tree_grow_18 rfl ?_
  refine lv_istore_n (lv' := [(2, .int (np_i 0)), (0, .ref (q 15)), (1, .int (np_i x1))]) C.x C.b dd_Tree_grow_19 rfl hl (by decide) rfl (fun ls hl => ?_)
  exact w_f_Tree_grow_20 C hQ  6000 _ _ _ _ _ hf hat (lv_sub hl [1, 0] rfl)
set_option maxHeartbeats 4000000 in
set_option maxRecDepth 100000 in
theorem c_Tree_grow (l : Launch) {gA : Nat → Nat} {D : va_G} {q : Nat → Nat} {cA : Nat → ClassId} (x1 : Int) (σ : np_S) : np_Mv gA l D np_cl (np_ty cA) (nc_wd q cA) yy_Tree_grow (.code yy_Tree_grow prog_7_method_3_code 3 none :: np_al) { frames := 4, cells := 0, slots := 0, locals := 100 } [.ref (q 15), .int (np_i x1)] σ (f_Tree_grow x1 σ) :=
  np_mkv (by decide +kernel) (Nat.le_of_ble_eq_true rfl) (fun o p e R s m args below meth c Q A ls hf C hQ hat hl => w_f_Tree_grow C hQ x1 σ _ _ _ hf hat (lv_sub hl [0, 1] rfl))
set_option maxHeartbeats 4000000 in
set_option maxRecDepth 100000 in
theorem w_f_N_fault (C : np_Cx gA p R s m args c D np_cl (np_ty cA) A np_al "NotationParse" prog_1_method_10_code 2 { frames := 0, cells := 0, slots := 0, locals := 0 }) (hQ : ∀ (pc : Nat) (ls : Array Slot) (H : Heap) (locs : List Loc) (v : Int) {σ : np_S}, decode prog_1_method_10_code pc = .ok (.ireturn, 1) → some (v, σ) = some out → np_At D np_cl A (nc_wd q cA) s σ H locs → W p l e R s m args below meth c H locs 0 0 Q (F0 m pc ls [.int (np_i v)]))   : ∀ (x1 : Int) (σ : np_S) (H : Heap) (locs : List Loc) (ls : Array Slot), f_N_fault  x1 σ = some out → np_At D np_cl A (nc_wd q cA) s σ H locs → lv_has ls 2 [(0, .ref (q 0)), (1, .int (np_i x1))] → W p l e R s m args below meth c H locs 0 0 Q (F0 m 0 ls []) := by
  intro x1 σ H locs ls hf hat hl
  unfold f_N_fault at hf
  refine lv_iload_n C.x C.b dd_N_fault_0 rfl (lv_at hl 1 rfl) ?_
  obtain ⟨hR, hf⟩ := np_ck_e hf
  refine np_case hf (fun hx hf => ?_) (fun n0 hf => ?_)
  · refine np_lswI (tgt := 28) (off := 27) C dd_N_fault_1 hx (by decide +kernel) (by decide +kernel) (by decide) ?_
    refine lv_aload_n C.x C.b dd_N_fault_28 rfl (lv_at hl 0 rfl) ?_
    refine np_get (v := .int (np_i (σ 0 5))) C i_N hat.1 0 (nc_o0 _) rfl 5 (by decide) tw_209 rfl rfl dd_N_fault_29 ?_
    exact hQ _ _ _ _ _ dd_N_fault_32 hf hat
  refine np_case hf (fun hx hf => ?_) (fun n1 hf => ?_)
  · refine np_lswI (tgt := 33) (off := 32) C dd_N_fault_1 hx (by decide +kernel) (by decide +kernel) (by decide) ?_
    refine lv_aload_n C.x C.b dd_N_fault_33 rfl (lv_at hl 0 rfl) ?_
    refine np_get (v := .int (np_i (σ 0 6))) C i_N hat.1 0 (nc_o0 _) rfl 6 (by decide) tw_210 rfl rfl dd_N_fault_34 ?_
    exact hQ _ _ _ _ _ dd_N_fault_37 hf hat
  refine np_lswO (tgt := 38) C dd_N_fault_1 hR (by decide +kernel) (by simp only [List.mem_cons, List.not_mem_nil, or_false, forall_eq_or_imp, forall_eq]; omega) (by decide) ?_
  refine lv_iconst (v := np_i (-1)) C.x C.b dd_N_fault_38 rfl ?_
  exact hQ _ _ _ _ _ dd_N_fault_39 hf hat
set_option maxHeartbeats 4000000 in
set_option maxRecDepth 100000 in
theorem c_N_fault (l : Launch) {gA : Nat → Nat} {D : va_G} {q : Nat → Nat} {cA : Nat → ClassId} (x1 : Int) (σ : np_S) : np_Mi gA l D np_cl (np_ty cA) (nc_wd q cA) yy_N_fault (.code yy_N_fault prog_1_method_10_code 2 (some .int) :: np_al) { frames := 0, cells := 0, slots := 0, locals := 0 } [.ref (q 0), .int (np_i x1)] σ (f_N_fault x1 σ) :=
  np_mki (by decide +kernel) (Nat.le_of_ble_eq_true rfl) (fun o p e R s m args below meth c Q A ls hf C hQ hat hl => w_f_N_fault C hQ x1 σ _ _ _ hf hat (lv_sub hl [0, 1] rfl))
set_option maxHeartbeats 4000000 in
set_option maxRecDepth 100000 in
theorem w_f_Tree_levelWithin_27 (C : np_Cx gA p R s m args c D np_cl (np_ty cA) A np_al "NotationParse$Tree" prog_7_method_8_code 3 { frames := 0, cells := 0, slots := 0, locals := 0 }) (hQ : ∀ (pc : Nat) (ls : Array Slot) (H : Heap) (locs : List Loc) (v : Int) {σ : np_S}, decode prog_7_method_8_code pc = .ok (.ireturn, 1) → some (v, σ) = some out → np_At D np_cl A (nc_wd q cA) s σ H locs → W p l e R s m args below meth c H locs 0 0 Q (F0 m pc ls [.int (np_i v)]))   : ∀ (x2 : Int) (σ : np_S) (H : Heap) (locs : List Loc) (ls : Array Slot), f_Tree_levelWithin_27  x2 σ = some out → np_At D np_cl A (nc_wd q cA) s σ H locs → lv_has ls 3 [(0, .ref (q 15)), (2, .int (np_i x2))] → W p l e R s m args below meth c H locs 0 0 Q (F0 m 27 ls []) := by
  intro x2 σ H locs ls hf hat hl
  unfold f_Tree_levelWithin_27 at hf
  refine lv_aload_n C.x C.b dd_Tree_levelWithin_27 rfl (lv_at hl 0 rfl) ?_
  refine np_get (v := .ref (q 1)) C i_Tree hat.1 15 (nc_o15 _) rfl 0 (by decide) tw_140 rfl rfl dd_Tree_levelWithin_28 ?_
  refine np_get (v := .ref (q 4)) C i_Grammar hat.1 1 (nc_o1 _) rfl 2 (by decide) tw_57 rfl rfl dd_Tree_levelWithin_31 ?_
  refine lv_aload_n C.x C.b dd_Tree_levelWithin_34 rfl (lv_at hl 0 rfl) ?_
  refine np_get (v := .ref (q 16)) C i_Tree hat.1 15 (nc_o15 _) rfl 3 (by decide) tw_144 rfl rfl dd_Tree_levelWithin_35 ?_
  refine lv_iload_n C.x C.b dd_Tree_levelWithin_38 rfl (lv_at hl 1 rfl) ?_
  refine np_iaload C hat.1 16 (nc_a16 _) 0 rfl (by decide) dd_Tree_levelWithin_39 hf (fun hf => ?_)
  refine np_iaload C hat.1 4 (nc_a4 _) 0 rfl (by decide) dd_Tree_levelWithin_40 hf (fun hf => ?_)
  exact hQ _ _ _ _ _ dd_Tree_levelWithin_41 hf hat
set_option maxHeartbeats 4000000 in
set_option maxRecDepth 100000 in
theorem w_f_Tree_levelWithin_2 (C : np_Cx gA p R s m args c D np_cl (np_ty cA) A np_al "NotationParse$Tree" prog_7_method_8_code 3 { frames := 0, cells := 0, slots := 0, locals := 0 }) (hQ : ∀ (pc : Nat) (ls : Array Slot) (H : Heap) (locs : List Loc) (v : Int) {σ : np_S}, decode prog_7_method_8_code pc = .ok (.ireturn, 1) → some (v, σ) = some out → np_At D np_cl A (nc_wd q cA) s σ H locs → W p l e R s m args below meth c H locs 0 0 Q (F0 m pc ls [.int (np_i v)]))   : ∀ (n : Nat), ∀ (x2 : Int) (σ : np_S) (H : Heap) (locs : List Loc) (ls : Array Slot), f_Tree_levelWithin_2  n x2 σ = some out → np_At D np_cl A (nc_wd q cA) s σ H locs → lv_has ls 3 [(0, .ref (q 15)), (2, .int (np_i x2))] → W p l e R s m args below meth c H locs 0 0 Q (F0 m 2 ls []) := by
  intro n
  induction n with
  | zero => intro x2 σ H locs ls hf; cases hf
  | succ n ih =>
    intro x2 σ H locs ls hf hat hl
    have h2 := ih
    have hf : f_Tree_levelWithin_2_b  (fun x2 σ => f_Tree_levelWithin_2  n x2 σ) x2 σ = some out := hf
    unfold f_Tree_levelWithin_2_b at hf
    refine lv_iload_n C.x C.b dd_Tree_levelWithin_2 rfl (lv_at hl 1 rfl) ?_
    refine lv_aload_n C.x C.b dd_Tree_levelWithin_3 rfl (lv_at hl 0 rfl) ?_
    refine np_get (v := .int (np_i (σ 15 2))) C i_Tree hat.1 15 (nc_o15 _) rfl 2 (by decide) tw_142 rfl rfl dd_Tree_levelWithin_4 ?_
    refine lv_iconst (v := np_i 1) C.x C.b dd_Tree_levelWithin_7 rfl ?_
    refine np_isub C dd_Tree_levelWithin_8 ?_
    refine np_icmp_ge (tgt := 27) C dd_Tree_levelWithin_9 (by decide) hf (fun _ hf => ?_) (fun _ hf => ?_)
    · exact w_f_Tree_levelWithin_27 C hQ  _ _ _ _ _ hf hat (lv_sub hl [0, 1] rfl)
    · refine lv_aload_n C.x C.b dd_Tree_levelWithin_12 rfl (lv_at hl 0 rfl) ?_
      refine np_get (v := .ref (q 16)) C i_Tree hat.1 15 (nc_o15 _) rfl 3 (by decide) tw_144 rfl rfl dd_Tree_levelWithin_13 ?_
      refine lv_iload_n C.x C.b dd_Tree_levelWithin_16 rfl (lv_at hl 1 rfl) ?_
      refine np_iaload C hat.1 16 (nc_a16 _) 0 rfl (by decide) dd_Tree_levelWithin_17 hf (fun hf => ?_)
      refine np_if_ne (tgt := 27) C dd_Tree_levelWithin_18 (by decide) hf (fun _ hf => ?_) (fun _ hf => ?_)
      · exact w_f_Tree_levelWithin_27 C hQ  _ _ _ _ _ hf hat (lv_sub hl [0, 1] rfl)
      · refine lv_iinc (v := np_i (x2 + 1)) (lv' := [(2, .int (np_i (x2 + 1))), (0, .ref (q 15))]) C.x C.b dd_Tree_levelWithin_21 hl (k := 1) rfl (np_inc _ _) (by decide) rfl (fun ls hl => ?_)
        refine lv_goto (tgt := 2) C.x C.b dd_Tree_levelWithin_24 (by decide) ?_
        exact h2 _ _ _ _ _ hf hat (lv_sub hl [1, 0] rfl)
set_option maxHeartbeats 4000000 in
set_option maxRecDepth 100000 in
theorem w_f_Tree_levelWithin (C : np_Cx gA p R s m args c D np_cl (np_ty cA) A np_al "NotationParse$Tree" prog_7_method_8_code 3 { frames := 0, cells := 0, slots := 0, locals := 0 }) (hQ : ∀ (pc : Nat) (ls : Array Slot) (H : Heap) (locs : List Loc) (v : Int) {σ : np_S}, decode prog_7_method_8_code pc = .ok (.ireturn, 1) → some (v, σ) = some out → np_At D np_cl A (nc_wd q cA) s σ H locs → W p l e R s m args below meth c H locs 0 0 Q (F0 m pc ls [.int (np_i v)]))   : ∀ (x1 : Int) (σ : np_S) (H : Heap) (locs : List Loc) (ls : Array Slot), f_Tree_levelWithin  x1 σ = some out → np_At D np_cl A (nc_wd q cA) s σ H locs → lv_has ls 3 [(0, .ref (q 15)), (1, .int (np_i x1))] → W p l e R s m args below meth c H locs 0 0 Q (F0 m 0 ls []) := by
  intro x1 σ H locs ls hf hat hl
  unfold f_Tree_levelWithin at hf
  refine lv_iload_n C.x C.b dd_Tree_levelWithin_0 rfl (lv_at hl 1 rfl) ?_
  refine lv_istore_n (lv' := [(2, .int (np_i x1)), (0, .ref (q 15)), (1, .int (np_i x1))]) C.x C.b dd_Tree_levelWithin_1 rfl hl (by decide) rfl (fun ls hl => ?_)
  exact w_f_Tree_levelWithin_2 C hQ  6000 _ _ _ _ _ hf hat (lv_sub hl [1, 0] rfl)
set_option maxHeartbeats 4000000 in
set_option maxRecDepth 100000 in
theorem c_Tree_levelWithin (l : Launch) {gA : Nat → Nat} {D : va_G} {q : Nat → Nat} {cA : Nat → ClassId} (x1 : Int) (σ : np_S) : np_Mi gA l D np_cl (np_ty cA) (nc_wd q cA) yy_Tree_levelWithin (.code yy_Tree_levelWithin prog_7_method_8_code 3 (some .int) :: np_al) { frames := 0, cells := 0, slots := 0, locals := 0 } [.ref (q 15), .int (np_i x1)] σ (f_Tree_levelWithin x1 σ) :=
  np_mki (by decide +kernel) (Nat.le_of_ble_eq_true rfl) (fun o p e R s m args below meth c Q A ls hf C hQ hat hl => w_f_Tree_levelWithin C hQ x1 σ _ _ _ hf hat (lv_sub hl [0, 1] rfl))
set_option maxHeartbeats 4000000 in
set_option maxRecDepth 100000 in
theorem w_f_Tree_needlessBrackets_64 (C : np_Cx gA p R s m args c D np_cl (np_ty cA) A np_al "NotationParse$Tree" prog_7_method_7_code 3 { frames := 1, cells := 0, slots := 0, locals := 22 }) (hQ : ∀ (pc : Nat) (ls : Array Slot) (H : Heap) (locs : List Loc) (v : Int) {σ : np_S}, decode prog_7_method_7_code pc = .ok (.ireturn, 1) → some (v, σ) = some out → np_At D np_cl A (nc_wd q cA) s σ H locs → W p l e R s m args below meth c H locs 0 0 Q (F0 m pc ls [.int (np_i v)])) {k4 : (Int → Int → np_S → Option np_O)} (h4 : ∀ (x1 x2 : Int) (σ : np_S) (H : Heap) (locs : List Loc) (ls : Array Slot), k4 x1 x2 σ = some out → np_At D np_cl A (nc_wd q cA) s σ H locs → lv_has ls 3 [(0, .ref (q 15)), (1, .int (np_i x1)), (2, .int (np_i x2))] → W p l e R s m args below meth c H locs 0 0 Q (F0 m 4 ls [])) : ∀ (x1 x2 : Int) (σ : np_S) (H : Heap) (locs : List Loc) (ls : Array Slot), f_Tree_needlessBrackets_64 k4 x1 x2 σ = some out → np_At D np_cl A (nc_wd q cA) s σ H locs → lv_has ls 3 [(0, .ref (q 15)), (1, .int (np_i x1)), (2, .int (np_i x2))] → W p l e R s m args below meth c H locs 0 0 Q (F0 m 64 ls []) := by
  intro x1 x2 σ H locs ls hf hat hl
  unfold f_Tree_needlessBrackets_64 at hf
  refine lv_iinc (v := np_i (x2 + 1)) (lv' := [(2, .int (np_i (x2 + 1))), (0, .ref (q 15)), (1, .int (np_i x1))]) C.x C.b dd_Tree_needlessBrackets_64 hl (k := 2) rfl (np_inc _ _) (by decide) rfl (fun ls hl => ?_)
  refine lv_goto (tgt := 4) C.x C.b dd_Tree_needlessBrackets_67 (by decide) ?_
  exact h4 _ _ _ _ _ _ hf hat (lv_sub hl [1, 2, 0] rfl)
set_option maxHeartbeats 4000000 in
set_option maxRecDepth 100000 in
theorem w_f_Tree_needlessBrackets_4 (C : np_Cx gA p R s m args c D np_cl (np_ty cA) A np_al "NotationParse$Tree" prog_7_method_7_code 3 { frames := 1, cells := 0, slots := 0, locals := 22 }) (hQ : ∀ (pc : Nat) (ls : Array Slot) (H : Heap) (locs : List Loc) (v : Int) {σ : np_S}, decode prog_7_method_7_code pc = .ok (.ireturn, 1) → some (v, σ) = some out → np_At D np_cl A (nc_wd q cA) s σ H locs → W p l e R s m args below meth c H locs 0 0 Q (F0 m pc ls [.int (np_i v)]))   : ∀ (n : Nat), ∀ (x1 x2 : Int) (σ : np_S) (H : Heap) (locs : List Loc) (ls : Array Slot), f_Tree_needlessBrackets_4  n x1 x2 σ = some out → np_At D np_cl A (nc_wd q cA) s σ H locs → lv_has ls 3 [(0, .ref (q 15)), (1, .int (np_i x1)), (2, .int (np_i x2))] → W p l e R s m args below meth c H locs 0 0 Q (F0 m 4 ls []) := by
  intro n
  induction n with
  | zero => intro x1 x2 σ H locs ls hf; cases hf
  | succ n ih =>
    intro x1 x2 σ H locs ls hf hat hl
    have h4 := ih
    have hf : f_Tree_needlessBrackets_4_b  (fun x1 x2 σ => f_Tree_needlessBrackets_4  n x1 x2 σ) x1 x2 σ = some out := hf
    unfold f_Tree_needlessBrackets_4_b at hf
    refine lv_iload_n C.x C.b dd_Tree_needlessBrackets_4 rfl (lv_at hl 2 rfl) ?_
    refine lv_aload_n C.x C.b dd_Tree_needlessBrackets_5 rfl (lv_at hl 0 rfl) ?_
    refine np_get (v := .int (np_i (σ 15 2))) C i_Tree hat.1 15 (nc_o15 _) rfl 2 (by decide) tw_142 rfl rfl dd_Tree_needlessBrackets_6 ?_
    refine np_icmp_ge (tgt := 70) C dd_Tree_needlessBrackets_9 (by decide) hf (fun _ hf => ?_) (fun _ hf => ?_)
    · refine lv_iload_n C.x C.b dd_Tree_needlessBrackets_70 rfl (lv_at hl 1 rfl) ?_
      exact hQ _ _ _ _ _ dd_Tree_needlessBrackets_71 hf hat
    · refine lv_aload_n C.x C.b dd_Tree_needlessBrackets_12 rfl (lv_at hl 0 rfl) ?_
      refine np_get (v := .ref (q 16)) C i_Tree hat.1 15 (nc_o15 _) rfl 3 (by decide) tw_144 rfl rfl dd_Tree_needlessBrackets_13 ?_
      refine lv_iload_n C.x C.b dd_Tree_needlessBrackets_16 rfl (lv_at hl 2 rfl) ?_
      refine np_iaload C hat.1 16 (nc_a16 _) 0 rfl (by decide) dd_Tree_needlessBrackets_17 hf (fun hf => ?_)
      refine np_if_ne (tgt := 64) C dd_Tree_needlessBrackets_18 (by decide) hf (fun _ hf => ?_) (fun _ hf => ?_)
      · exact w_f_Tree_needlessBrackets_64 C hQ h4 _ _ _ _ _ _ hf hat (lv_sub hl [0, 1, 2] rfl)
      · refine lv_aload_n C.x C.b dd_Tree_needlessBrackets_21 rfl (lv_at hl 0 rfl) ?_
        refine lv_iload_n C.x C.b dd_Tree_needlessBrackets_22 rfl (lv_at hl 2 rfl) ?_
        refine np_callVi (As := [.int (np_i x2)]) (rest := []) C (c_Tree_levelWithin l x2 _) np_allgood tw_899 tw_901 tp_25 tw_6 tw_902 (nA := 1) (by decide +kernel) rfl ⟨rfl, rfl, Nat.le_of_ble_eq_true rfl, Nat.le_of_ble_eq_true rfl⟩ (va_recv C.k hat.1 (ci := 4) (q0 := 15) rfl (nc_o15 _)) hat rfl hl.1 (Nat.le_of_ble_eq_true rfl) dd_Tree_needlessBrackets_23 hf (fun o1 H locs hf hat => ?_)
        refine lv_aload_n C.x C.b dd_Tree_needlessBrackets_26 rfl (lv_at hl 0 rfl) ?_
        refine np_get (v := .ref (q 21)) C i_Tree hat.1 15 (nc_o15 _) rfl 8 (by decide) tw_154 rfl rfl dd_Tree_needlessBrackets_27 ?_
        refine lv_iload_n C.x C.b dd_Tree_needlessBrackets_30 rfl (lv_at hl 2 rfl) ?_
        refine np_iaload C hat.1 21 (nc_a21 _) 0 rfl (by decide) dd_Tree_needlessBrackets_31 hf (fun hf => ?_)
        refine np_icmp_lt (tgt := 64) C dd_Tree_needlessBrackets_32 (by decide) hf (fun _ hf => ?_) (fun _ hf => ?_)
        · exact w_f_Tree_needlessBrackets_64 C hQ h4 _ _ _ _ _ _ hf hat (lv_sub hl [0, 1, 2] rfl)
        · refine lv_iload_n C.x C.b dd_Tree_needlessBrackets_35 rfl (lv_at hl 1 rfl) ?_
          refine lv_iconst (v := np_i 1) C.x C.b dd_Tree_needlessBrackets_36 rfl ?_
          refine lv_aload_n C.x C.b dd_Tree_needlessBrackets_37 rfl (lv_at hl 0 rfl) ?_
          refine np_get (v := .ref (q 18)) C i_Tree hat.1 15 (nc_o15 _) rfl 5 (by decide) tw_148 rfl rfl dd_Tree_needlessBrackets_38 ?_
          refine lv_iload_n C.x C.b dd_Tree_needlessBrackets_41 rfl (lv_at hl 2 rfl) ?_
          refine np_iaload C hat.1 18 (nc_a18 _) 0 rfl (by decide) dd_Tree_needlessBrackets_42 hf (fun hf => ?_)
          refine np_ishl C dd_Tree_needlessBrackets_43 ?_
          refine lv_iconst (v := np_i 1) C.x C.b dd_Tree_needlessBrackets_44 rfl ?_
          refine lv_aload_n C.x C.b dd_Tree_needlessBrackets_45 rfl (lv_at hl 0 rfl) ?_
          refine np_get (v := .ref (q 18)) C i_Tree hat.1 15 (nc_o15 _) rfl 5 (by decide) tw_148 rfl rfl dd_Tree_needlessBrackets_46 ?_
          refine lv_iload_n C.x C.b dd_Tree_needlessBrackets_49 rfl (lv_at hl 2 rfl) ?_
          refine np_iaload C hat.1 18 (nc_a18 _) 0 rfl (by decide) dd_Tree_needlessBrackets_50 hf (fun hf => ?_)
          refine lv_aload_n C.x C.b dd_Tree_needlessBrackets_51 rfl (lv_at hl 0 rfl) ?_
          refine np_get (v := .ref (q 19)) C i_Tree hat.1 15 (nc_o15 _) rfl 6 (by decide) tw_150 rfl rfl dd_Tree_needlessBrackets_52 ?_
          refine lv_iload_n C.x C.b dd_Tree_needlessBrackets_55 rfl (lv_at hl 2 rfl) ?_
          refine np_iaload C hat.1 19 (nc_a19 _) 0 rfl (by decide) dd_Tree_needlessBrackets_56 hf (fun hf => ?_)
          refine np_iadd C dd_Tree_needlessBrackets_57 ?_
          refine lv_iconst (v := np_i 1) C.x C.b dd_Tree_needlessBrackets_58 rfl ?_
          refine np_isub C dd_Tree_needlessBrackets_59 ?_
          refine np_ishl C dd_Tree_needlessBrackets_60 ?_
          refine np_ior C dd_Tree_needlessBrackets_61 ?_
          refine np_ior C dd_Tree_needlessBrackets_62 ?_
          refine lv_istore_n (lv' := [(1, .int (np_i (np_ori x1 (np_ori (np_shli 1 (o1.2 18 x2)) (np_shli 1 (((o1.2 18 x2) + (o1.2 19 x2)) - 1)))))), (0, .ref (q 15)), (2, .int (np_i x2))]) C.x C.b dd_Tree_needlessBrackets_63 rfl hl (by decide) rfl (fun ls hl => ?_)
          exact w_f_Tree_needlessBrackets_64 C hQ h4 _ _ _ _ _ _ hf hat (lv_sub hl [1, 0, 2] rfl)
set_option maxHeartbeats 4000000 in
set_option maxRecDepth 100000 in
theorem w_f_Tree_needlessBrackets (C : np_Cx gA p R s m args c D np_cl (np_ty cA) A np_al "NotationParse$Tree" prog_7_method_7_code 3 { frames := 1, cells := 0, slots := 0, locals := 22 }) (hQ : ∀ (pc : Nat) (ls : Array Slot) (H : Heap) (locs : List Loc) (v : Int) {σ : np_S}, decode prog_7_method_7_code pc = .ok (.ireturn, 1) → some (v, σ) = some out → np_At D np_cl A (nc_wd q cA) s σ H locs → W p l e R s m args below meth c H locs 0 0 Q (F0 m pc ls [.int (np_i v)]))   : ∀ (σ : np_S) (H : Heap) (locs : List Loc) (ls : Array Slot), f_Tree_needlessBrackets  σ = some out → np_At D np_cl A (nc_wd q cA) s σ H locs → lv_has ls 3 [(0, .ref (q 15))] → W p l e R s m args below meth c H locs 0 0 Q (F0 m 0 ls []) := by
  intro σ H locs ls hf hat hl
  unfold f_Tree_needlessBrackets at hf
  refine lv_iconst (v := np_i 0) C.x C.b dd_Tree_needlessBrackets_0 rfl ?_
  refine lv_istore_n (lv' := [(1, .int (np_i 0)), (0, .ref (q 15))]) C.x C.b dd_Tree_needlessBrackets_1 rfl hl (by decide) rfl (fun ls hl => ?_)
  refine lv_iconst (v := np_i 0) C.x C.b dd_Tree_needlessBrackets_2 rfl ?_
  refine lv_istore_n (lv' := [(2, .int (np_i 0)), (1, .int (np_i 0)), (0, .ref (q 15))]) C.x C.b dd_Tree_needlessBrackets_3 rfl hl (by decide) rfl (fun ls hl => ?_)
  exact w_f_Tree_needlessBrackets_4 C hQ  6000 _ _ _ _ _ _ hf hat (lv_sub hl [2, 1, 0] rfl)
set_option maxHeartbeats 4000000 in
set_option maxRecDepth 100000 in
theorem c_Tree_needlessBrackets (l : Launch) {gA : Nat → Nat} {D : va_G} {q : Nat → Nat} {cA : Nat → ClassId} (σ : np_S) : np_Mi gA l D np_cl (np_ty cA) (nc_wd q cA) yy_Tree_needlessBrackets (.code yy_Tree_needlessBrackets prog_7_method_7_code 3 (some .int) :: np_al) { frames := 1, cells := 0, slots := 0, locals := 22 } [.ref (q 15)] σ (f_Tree_needlessBrackets  σ) :=
  np_mki (by decide +kernel) (Nat.le_of_ble_eq_true rfl) (fun o p e R s m args below meth c Q A ls hf C hQ hat hl => w_f_Tree_needlessBrackets C hQ  σ _ _ _ hf hat (lv_sub hl [0] rfl))
set_option maxHeartbeats 4000000 in
set_option maxRecDepth 100000 in
theorem w_f_Output_addByte_33 (C : np_Cx gA p R s m args c D np_cl (np_ty cA) A np_al "NotationParse$Output" prog_4_method_4_code 2 { frames := 0, cells := 0, slots := 0, locals := 0 }) (hQ : ∀ (pc : Nat) (ls : Array Slot) (H : Heap) (locs : List Loc) {σ : np_S}, decode prog_4_method_4_code pc = .ok (.return_, 1) → some ((0 : Int), σ) = some out → np_At D np_cl A (nc_wd q cA) s σ H locs → W p l e R s m args below meth c H locs 0 0 Q (F0 m pc ls []))   : ∀ (σ : np_S) (H : Heap) (locs : List Loc) (ls : Array Slot), f_Output_addByte_33  σ = some out → np_At D np_cl A (nc_wd q cA) s σ H locs → lv_has ls 2 [] → W p l e R s m args below meth c H locs 0 0 Q (F0 m 33 ls []) := by
  intro σ H locs ls hf hat hl
  unfold f_Output_addByte_33 at hf
  exact hQ _ _ _ _ dd_Output_addByte_33 hf hat
set_option maxHeartbeats 4000000 in
set_option maxRecDepth 100000 in
theorem w_f_Output_addByte (C : np_Cx gA p R s m args c D np_cl (np_ty cA) A np_al "NotationParse$Output" prog_4_method_4_code 2 { frames := 0, cells := 0, slots := 0, locals := 0 }) (hQ : ∀ (pc : Nat) (ls : Array Slot) (H : Heap) (locs : List Loc) {σ : np_S}, decode prog_4_method_4_code pc = .ok (.return_, 1) → some ((0 : Int), σ) = some out → np_At D np_cl A (nc_wd q cA) s σ H locs → W p l e R s m args below meth c H locs 0 0 Q (F0 m pc ls []))   : ∀ (x1 : Int) (σ : np_S) (H : Heap) (locs : List Loc) (ls : Array Slot), f_Output_addByte  x1 σ = some out → np_At D np_cl A (nc_wd q cA) s σ H locs → lv_has ls 2 [(0, .ref (q 26)), (1, .int (np_i x1))] → W p l e R s m args below meth c H locs 0 0 Q (F0 m 0 ls []) := by
  intro x1 σ H locs ls hf hat hl
  unfold f_Output_addByte at hf
  refine lv_aload_n C.x C.b dd_Output_addByte_0 rfl (lv_at hl 0 rfl) ?_
  refine np_get (v := .int (np_i (σ 26 1))) C i_Output hat.1 26 (nc_o26 _) rfl 1 (by decide) tw_197 rfl rfl dd_Output_addByte_1 ?_
  refine lv_aload_n C.x C.b dd_Output_addByte_4 rfl (lv_at hl 0 rfl) ?_
  refine np_get (v := .ref (q 27)) C i_Output hat.1 26 (nc_o26 _) rfl 0 (by decide) tw_195 rfl rfl dd_Output_addByte_5 ?_
  refine np_alen (n := 230) C hat.1 27 (nc_a27 _) 2 rfl (show Int32.ofNat 230 = np_i 230 by decide +kernel) dd_Output_addByte_8 ?_
  refine np_icmp_ge (tgt := 33) C dd_Output_addByte_9 (by decide) hf (fun _ hf => ?_) (fun _ hf => ?_)
  · exact w_f_Output_addByte_33 C hQ   _ _ _ _ hf hat (lv_sub hl [] rfl)
  · refine lv_aload_n C.x C.b dd_Output_addByte_12 rfl (lv_at hl 0 rfl) ?_
    refine np_get (v := .ref (q 27)) C i_Output hat.1 26 (nc_o26 _) rfl 0 (by decide) tw_195 rfl rfl dd_Output_addByte_13 ?_
    refine lv_aload_n C.x C.b dd_Output_addByte_16 rfl (lv_at hl 0 rfl) ?_
    refine np_get (v := .int (np_i (σ 26 1))) C i_Output hat.1 26 (nc_o26 _) rfl 1 (by decide) tw_197 rfl rfl dd_Output_addByte_17 ?_
    refine lv_iload_n C.x C.b dd_Output_addByte_20 rfl (lv_at hl 1 rfl) ?_
    refine np_i2b C dd_Output_addByte_21 ?_
    refine np_bastore C hat 27 (nc_a27 _) 2 rfl (by decide) (nc_s27 _ _ _) dd_Output_addByte_22 hf (fun H locs hat hf => ?_)
    refine lv_aload_n C.x C.b dd_Output_addByte_23 rfl (lv_at hl 0 rfl) ?_
    refine lv_dup C.x C.b dd_Output_addByte_24 rfl ?_
    refine np_get (v := .int (np_i ((np_st σ 27 (σ 26 1) (Int.bmod (Int.bmod x1 256) 256)) 26 1))) C i_Output hat.1 26 (nc_o26 _) rfl 1 (by decide) tw_197 rfl rfl dd_Output_addByte_25 ?_
    refine lv_iconst (v := np_i 1) C.x C.b dd_Output_addByte_28 rfl ?_
    refine np_iadd C dd_Output_addByte_29 ?_
    refine np_put C i_Output t_Output tok_Output n_Output hat 26 (nc_o26 _) rfl 1 (by decide) tw_197 rfl rfl (by decide +kernel) (np_narI (((np_st σ 27 (σ 26 1) (Int.bmod (Int.bmod x1 256) 256)) 26 1) + 1)) (np_fitI (((np_st σ 27 (σ 26 1) (Int.bmod (Int.bmod x1 256) 256)) 26 1) + 1)) (Nat.le_of_ble_eq_true rfl) (nc_s26_1 _ _) dd_Output_addByte_30 (fun H locs hat => ?_)
    exact w_f_Output_addByte_33 C hQ   _ _ _ _ hf hat (lv_sub hl [] rfl)
set_option maxHeartbeats 4000000 in
set_option maxRecDepth 100000 in
theorem c_Output_addByte (l : Launch) {gA : Nat → Nat} {D : va_G} {q : Nat → Nat} {cA : Nat → ClassId} (x1 : Int) (σ : np_S) : np_Mv gA l D np_cl (np_ty cA) (nc_wd q cA) yy_Output_addByte (.code yy_Output_addByte prog_4_method_4_code 2 none :: np_al) { frames := 0, cells := 0, slots := 0, locals := 0 } [.ref (q 26), .int (np_i x1)] σ (f_Output_addByte x1 σ) :=
  np_mkv (by decide +kernel) (Nat.le_of_ble_eq_true rfl) (fun o p e R s m args below meth c Q A ls hf C hQ hat hl => w_f_Output_addByte C hQ x1 σ _ _ _ hf hat (lv_sub hl [0, 1] rfl))
set_option maxHeartbeats 4000000 in
set_option maxRecDepth 100000 in
theorem w_f_Output_writeWord_25 (C : np_Cx gA p R s m args c D np_cl (np_ty cA) A np_al "NotationParse$Output" prog_4_method_3_code 5 { frames := 1, cells := 0, slots := 0, locals := 22 }) (hQ : ∀ (pc : Nat) (ls : Array Slot) (H : Heap) (locs : List Loc) {σ : np_S}, decode prog_4_method_3_code pc = .ok (.return_, 1) → some ((0 : Int), σ) = some out → np_At D np_cl A (nc_wd q cA) s σ H locs → W p l e R s m args below meth c H locs 0 0 Q (F0 m pc ls [])) {k3 : (Int → Int → np_S → Option np_O)} (h3 : ∀ (x1 x3 : Int) (σ : np_S) (H : Heap) (locs : List Loc) (ls : Array Slot), k3 x1 x3 σ = some out → np_At D np_cl A (nc_wd q cA) s σ H locs → lv_has ls 5 [(0, .ref (q 26)), (1, .long (np_l x1)), (3, .int (np_i x3))] → W p l e R s m args below meth c H locs 0 0 Q (F0 m 3 ls [])) : ∀ (x1 x3 : Int) (σ : np_S) (H : Heap) (locs : List Loc) (ls : Array Slot), f_Output_writeWord_25 k3 x1 x3 σ = some out → np_At D np_cl A (nc_wd q cA) s σ H locs → lv_has ls 5 [(0, .ref (q 26)), (1, .long (np_l x1)), (3, .int (np_i x3))] → W p l e R s m args below meth c H locs 0 0 Q (F0 m 25 ls []) := by
  intro x1 x3 σ H locs ls hf hat hl
  unfold f_Output_writeWord_25 at hf
  refine lv_iinc (v := np_i (x3 + (-1))) (lv' := [(3, .int (np_i (x3 + (-1)))), (0, .ref (q 26)), (1, .long (np_l x1))]) C.x C.b dd_Output_writeWord_25 hl (k := 2) rfl (np_inc _ _) (by decide) rfl (fun ls hl => ?_)
  refine lv_goto (tgt := 3) C.x C.b dd_Output_writeWord_28 (by decide) ?_
  exact h3 _ _ _ _ _ _ hf hat (lv_sub hl [1, 2, 0] rfl)
set_option maxHeartbeats 4000000 in
set_option maxRecDepth 100000 in
theorem w_f_Output_writeWord_3 (C : np_Cx gA p R s m args c D np_cl (np_ty cA) A np_al "NotationParse$Output" prog_4_method_3_code 5 { frames := 1, cells := 0, slots := 0, locals := 22 }) (hQ : ∀ (pc : Nat) (ls : Array Slot) (H : Heap) (locs : List Loc) {σ : np_S}, decode prog_4_method_3_code pc = .ok (.return_, 1) → some ((0 : Int), σ) = some out → np_At D np_cl A (nc_wd q cA) s σ H locs → W p l e R s m args below meth c H locs 0 0 Q (F0 m pc ls []))   : ∀ (n : Nat), ∀ (x1 x3 : Int) (σ : np_S) (H : Heap) (locs : List Loc) (ls : Array Slot), f_Output_writeWord_3  n x1 x3 σ = some out → np_At D np_cl A (nc_wd q cA) s σ H locs → lv_has ls 5 [(0, .ref (q 26)), (1, .long (np_l x1)), (3, .int (np_i x3))] → W p l e R s m args below meth c H locs 0 0 Q (F0 m 3 ls []) := by
  intro n
  induction n with
  | zero => intro x1 x3 σ H locs ls hf; cases hf
  | succ n ih =>
    intro x1 x3 σ H locs ls hf hat hl
    have h3 := ih
    have hf : f_Output_writeWord_3_b  (fun x1 x3 σ => f_Output_writeWord_3  n x1 x3 σ) x1 x3 σ = some out := hf
    unfold f_Output_writeWord_3_b at hf
    refine lv_iload_n C.x C.b dd_Output_writeWord_3 rfl (lv_at hl 2 rfl) ?_
    refine np_if_lt (tgt := 31) C dd_Output_writeWord_4 (by decide) hf (fun _ hf => ?_) (fun _ hf => ?_)
    · exact hQ _ _ _ _ dd_Output_writeWord_31 hf hat
    · refine lv_lload_n C.x C.b dd_Output_writeWord_7 rfl (lv_at hl 1 rfl) ?_
      refine lv_iload_n C.x C.b dd_Output_writeWord_8 rfl (lv_at hl 2 rfl) ?_
      refine np_callSi (As := [.long (np_l x1), .int (np_i x3)]) (rest := []) C (c_Spelling_byteOf l x1 x3 _) np_allgood tw_915 tw_235 tw_14 tw_236 (nA := 2) (by decide +kernel) rfl ⟨rfl, rfl, Nat.le_of_ble_eq_true rfl, Nat.le_of_ble_eq_true rfl⟩ hat rfl hl.1 (Nat.le_of_ble_eq_true rfl) dd_Output_writeWord_9 hf (fun o1 H locs hf hat => ?_)
      refine lv_istore (lv' := [(4, .int (np_i o1.1)), (0, .ref (q 26)), (1, .long (np_l x1)), (3, .int (np_i x3))]) C.x C.b dd_Output_writeWord_12 hl (by decide) rfl (fun ls hl => ?_)
      refine lv_iload C.x C.b dd_Output_writeWord_14 (lv_at hl 0 rfl) ?_
      refine np_if_eq (tgt := 25) C dd_Output_writeWord_16 (by decide) hf (fun _ hf => ?_) (fun _ hf => ?_)
      · exact w_f_Output_writeWord_25 C hQ h3 _ _ _ _ _ _ hf hat (lv_sub hl [1, 2, 3] rfl)
      · refine lv_aload_n C.x C.b dd_Output_writeWord_19 rfl (lv_at hl 1 rfl) ?_
        refine lv_iload C.x C.b dd_Output_writeWord_20 (lv_at hl 0 rfl) ?_
        refine np_callVv (As := [.int (np_i o1.1)]) (rest := []) C (c_Output_addByte l o1.1 _) np_allgood tw_907 tw_909 tp_26 tw_7 tw_910 (nA := 1) (by decide +kernel) rfl ⟨rfl, rfl, Nat.le_of_ble_eq_true rfl, Nat.le_of_ble_eq_true rfl⟩ (va_recv C.k hat.1 (ci := 5) (q0 := 26) rfl (nc_o26 _)) hat rfl hl.1 (Nat.le_of_ble_eq_true rfl) dd_Output_writeWord_22 hf (fun o2 H locs hf hat => ?_)
        exact w_f_Output_writeWord_25 C hQ h3 _ _ _ _ _ _ hf hat (lv_sub hl [1, 2, 3] rfl)
set_option maxHeartbeats 4000000 in
set_option maxRecDepth 100000 in
theorem w_f_Output_writeWord (C : np_Cx gA p R s m args c D np_cl (np_ty cA) A np_al "NotationParse$Output" prog_4_method_3_code 5 { frames := 1, cells := 0, slots := 0, locals := 22 }) (hQ : ∀ (pc : Nat) (ls : Array Slot) (H : Heap) (locs : List Loc) {σ : np_S}, decode prog_4_method_3_code pc = .ok (.return_, 1) → some ((0 : Int), σ) = some out → np_At D np_cl A (nc_wd q cA) s σ H locs → W p l e R s m args below meth c H locs 0 0 Q (F0 m pc ls []))   : ∀ (x1 : Int) (σ : np_S) (H : Heap) (locs : List Loc) (ls : Array Slot), f_Output_writeWord  x1 σ = some out → np_At D np_cl A (nc_wd q cA) s σ H locs → lv_has ls 5 [(0, .ref (q 26)), (1, .long (np_l x1))] → W p l e R s m args below meth c H locs 0 0 Q (F0 m 0 ls []) := by
  intro x1 σ H locs ls hf hat hl
  unfold f_Output_writeWord at hf
  refine lv_bipush (v := np_i 7) C.x C.b dd_Output_writeWord_0 (by decide +kernel) ?_
  refine lv_istore_n (lv' := [(3, .int (np_i 7)), (0, .ref (q 26)), (1, .long (np_l x1))]) C.x C.b dd_Output_writeWord_2 rfl hl (by decide) rfl (fun ls hl => ?_)
  exact w_f_Output_writeWord_3 C hQ  6000 _ _ _ _ _ _ hf hat (lv_sub hl [1, 2, 0] rfl)
set_option maxHeartbeats 4000000 in
set_option maxRecDepth 100000 in
theorem c_Output_writeWord (l : Launch) {gA : Nat → Nat} {D : va_G} {q : Nat → Nat} {cA : Nat → ClassId} (x1 : Int) (σ : np_S) : np_Mv gA l D np_cl (np_ty cA) (nc_wd q cA) yy_Output_writeWord (.code yy_Output_writeWord prog_4_method_3_code 5 none :: np_al) { frames := 1, cells := 0, slots := 0, locals := 22 } [.ref (q 26), .long (np_l x1)] σ (f_Output_writeWord x1 σ) :=
  np_mkv (by decide +kernel) (Nat.le_of_ble_eq_true rfl) (fun o p e R s m args below meth c Q A ls hf C hQ hat hl => w_f_Output_writeWord C hQ x1 σ _ _ _ hf hat (lv_sub hl [0, 1] rfl))
set_option maxHeartbeats 4000000 in
set_option maxRecDepth 100000 in
theorem w_f_Output_writeWords_46 (C : np_Cx gA p R s m args c D np_cl (np_ty cA) A np_al "NotationParse$Output" prog_4_method_2_code 4 { frames := 2, cells := 0, slots := 0, locals := 46 }) (hQ : ∀ (pc : Nat) (ls : Array Slot) (H : Heap) (locs : List Loc) {σ : np_S}, decode prog_4_method_2_code pc = .ok (.return_, 1) → some ((0 : Int), σ) = some out → np_At D np_cl A (nc_wd q cA) s σ H locs → W p l e R s m args below meth c H locs 0 0 Q (F0 m pc ls [])) {k7 : (Int → Int → np_S → Option np_O)} (h7 : ∀ (x2 x3 : Int) (σ : np_S) (H : Heap) (locs : List Loc) (ls : Array Slot), k7 x2 x3 σ = some out → np_At D np_cl A (nc_wd q cA) s σ H locs → lv_has ls 4 [(0, .ref (q 26)), (1, .ref (q 6)), (2, .int (np_i x2)), (3, .int (np_i x3))] → W p l e R s m args below meth c H locs 0 0 Q (F0 m 7 ls [])) : ∀ (x2 x3 : Int) (σ : np_S) (H : Heap) (locs : List Loc) (ls : Array Slot), f_Output_writeWords_46 k7 x2 x3 σ = some out → np_At D np_cl A (nc_wd q cA) s σ H locs → lv_has ls 4 [(0, .ref (q 26)), (1, .ref (q 6)), (2, .int (np_i x2)), (3, .int (np_i x3))] → W p l e R s m args below meth c H locs 0 0 Q (F0 m 46 ls []) := by
  intro x2 x3 σ H locs ls hf hat hl
  unfold f_Output_writeWords_46 at hf
  refine lv_iinc (v := np_i (x3 + 1)) (lv' := [(3, .int (np_i (x3 + 1))), (0, .ref (q 26)), (1, .ref (q 6)), (2, .int (np_i x2))]) C.x C.b dd_Output_writeWords_46 hl (k := 3) rfl (np_inc _ _) (by decide) rfl (fun ls hl => ?_)
  refine lv_goto (tgt := 7) C.x C.b dd_Output_writeWords_49 (by decide) ?_
  exact h7 _ _ _ _ _ _ hf hat (lv_sub hl [1, 2, 3, 0] rfl)
set_option maxHeartbeats 4000000 in
set_option maxRecDepth 100000 in
theorem w_f_Output_writeWords_36 (C : np_Cx gA p R s m args c D np_cl (np_ty cA) A np_al "NotationParse$Output" prog_4_method_2_code 4 { frames := 2, cells := 0, slots := 0, locals := 46 }) (hQ : ∀ (pc : Nat) (ls : Array Slot) (H : Heap) (locs : List Loc) {σ : np_S}, decode prog_4_method_2_code pc = .ok (.return_, 1) → some ((0 : Int), σ) = some out → np_At D np_cl A (nc_wd q cA) s σ H locs → W p l e R s m args below meth c H locs 0 0 Q (F0 m pc ls [])) {k7 : (Int → Int → np_S → Option np_O)} (h7 : ∀ (x2 x3 : Int) (σ : np_S) (H : Heap) (locs : List Loc) (ls : Array Slot), k7 x2 x3 σ = some out → np_At D np_cl A (nc_wd q cA) s σ H locs → lv_has ls 4 [(0, .ref (q 26)), (1, .ref (q 6)), (2, .int (np_i x2)), (3, .int (np_i x3))] → W p l e R s m args below meth c H locs 0 0 Q (F0 m 7 ls [])) : ∀ (x2 x3 : Int) (σ : np_S) (H : Heap) (locs : List Loc) (ls : Array Slot), f_Output_writeWords_36 k7 x2 x3 σ = some out → np_At D np_cl A (nc_wd q cA) s σ H locs → lv_has ls 4 [(0, .ref (q 26)), (1, .ref (q 6)), (2, .int (np_i x2)), (3, .int (np_i x3))] → W p l e R s m args below meth c H locs 0 0 Q (F0 m 36 ls []) := by
  intro x2 x3 σ H locs ls hf hat hl
  unfold f_Output_writeWords_36 at hf
  refine lv_aload_n C.x C.b dd_Output_writeWords_36 rfl (lv_at hl 0 rfl) ?_
  refine lv_aload_n C.x C.b dd_Output_writeWords_37 rfl (lv_at hl 1 rfl) ?_
  refine np_get (v := .ref (q 8)) C i_Text hat.1 6 (nc_o6 _) rfl 2 (by decide) tw_89 rfl rfl dd_Output_writeWords_38 ?_
  refine lv_iload_n C.x C.b dd_Output_writeWords_41 rfl (lv_at hl 3 rfl) ?_
  refine np_laload C hat.1 8 (nc_a8 _) 1 rfl (by decide) dd_Output_writeWords_42 hf (fun hf => ?_)
  refine np_callVv (As := [.long (np_l (σ 8 x3))]) (rest := []) C (c_Output_writeWord l (σ 8 x3) _) np_allgood tw_911 tw_913 tp_27 tw_7 tw_914 (nA := 1) (by decide +kernel) rfl ⟨rfl, rfl, Nat.le_of_ble_eq_true rfl, Nat.le_of_ble_eq_true rfl⟩ (va_recv C.k hat.1 (ci := 5) (q0 := 26) rfl (nc_o26 _)) hat rfl hl.1 (Nat.le_of_ble_eq_true rfl) dd_Output_writeWords_43 hf (fun o1 H locs hf hat => ?_)
  exact w_f_Output_writeWords_46 C hQ h7 _ _ _ _ _ _ hf hat (lv_sub hl [0, 1, 2, 3] rfl)
set_option maxHeartbeats 4000000 in
set_option maxRecDepth 100000 in
theorem w_f_Output_writeWords_7 (C : np_Cx gA p R s m args c D np_cl (np_ty cA) A np_al "NotationParse$Output" prog_4_method_2_code 4 { frames := 2, cells := 0, slots := 0, locals := 46 }) (hQ : ∀ (pc : Nat) (ls : Array Slot) (H : Heap) (locs : List Loc) {σ : np_S}, decode prog_4_method_2_code pc = .ok (.return_, 1) → some ((0 : Int), σ) = some out → np_At D np_cl A (nc_wd q cA) s σ H locs → W p l e R s m args below meth c H locs 0 0 Q (F0 m pc ls []))   : ∀ (n : Nat), ∀ (x2 x3 : Int) (σ : np_S) (H : Heap) (locs : List Loc) (ls : Array Slot), f_Output_writeWords_7  n x2 x3 σ = some out → np_At D np_cl A (nc_wd q cA) s σ H locs → lv_has ls 4 [(0, .ref (q 26)), (1, .ref (q 6)), (2, .int (np_i x2)), (3, .int (np_i x3))] → W p l e R s m args below meth c H locs 0 0 Q (F0 m 7 ls []) := by
  intro n
  induction n with
  | zero => intro x2 x3 σ H locs ls hf; cases hf
  | succ n ih =>
    intro x2 x3 σ H locs ls hf hat hl
    have h7 := ih
    have hf : f_Output_writeWords_7_b  (fun x2 x3 σ => f_Output_writeWords_7  n x2 x3 σ) x2 x3 σ = some out := hf
    unfold f_Output_writeWords_7_b at hf
    refine lv_iload_n C.x C.b dd_Output_writeWords_7 rfl (lv_at hl 3 rfl) ?_
    refine lv_aload_n C.x C.b dd_Output_writeWords_8 rfl (lv_at hl 1 rfl) ?_
    refine np_get (v := .int (np_i (σ 6 5))) C i_Text hat.1 6 (nc_o6 _) rfl 5 (by decide) tw_95 rfl rfl dd_Output_writeWords_9 ?_
    refine np_icmp_ge (tgt := 52) C dd_Output_writeWords_12 (by decide) hf (fun _ hf => ?_) (fun _ hf => ?_)
    · exact hQ _ _ _ _ dd_Output_writeWords_52 hf hat
    · refine lv_iload_n C.x C.b dd_Output_writeWords_15 rfl (lv_at hl 2 rfl) ?_
      refine lv_iload_n C.x C.b dd_Output_writeWords_16 rfl (lv_at hl 3 rfl) ?_
      refine np_iushr C dd_Output_writeWords_17 ?_
      refine lv_iconst (v := np_i 1) C.x C.b dd_Output_writeWords_18 rfl ?_
      refine np_iand C dd_Output_writeWords_19 ?_
      refine np_if_ne (tgt := 46) C dd_Output_writeWords_20 (by decide) hf (fun _ hf => ?_) (fun _ hf => ?_)
      · exact w_f_Output_writeWords_46 C hQ h7 _ _ _ _ _ _ hf hat (lv_sub hl [0, 1, 2, 3] rfl)
      · refine lv_aload_n C.x C.b dd_Output_writeWords_23 rfl (lv_at hl 0 rfl) ?_
        refine np_get (v := .int (np_i (σ 26 1))) C i_Output hat.1 26 (nc_o26 _) rfl 1 (by decide) tw_197 rfl rfl dd_Output_writeWords_24 ?_
        refine np_if_le (tgt := 36) C dd_Output_writeWords_27 (by decide) hf (fun _ hf => ?_) (fun _ hf => ?_)
        · exact w_f_Output_writeWords_36 C hQ h7 _ _ _ _ _ _ hf hat (lv_sub hl [0, 1, 2, 3] rfl)
        · refine lv_aload_n C.x C.b dd_Output_writeWords_30 rfl (lv_at hl 0 rfl) ?_
          refine lv_bipush (v := np_i 32) C.x C.b dd_Output_writeWords_31 (by decide +kernel) ?_
          refine np_callVv (As := [.int (np_i 32)]) (rest := []) C (c_Output_addByte l 32 _) np_allgood tw_907 tw_909 tp_26 tw_7 tw_910 (nA := 1) (by decide +kernel) rfl ⟨rfl, rfl, Nat.le_of_ble_eq_true rfl, Nat.le_of_ble_eq_true rfl⟩ (va_recv C.k hat.1 (ci := 5) (q0 := 26) rfl (nc_o26 _)) hat rfl hl.1 (Nat.le_of_ble_eq_true rfl) dd_Output_writeWords_33 hf (fun o2 H locs hf hat => ?_)
          exact w_f_Output_writeWords_36 C hQ h7 _ _ _ _ _ _ hf hat (lv_sub hl [0, 1, 2, 3] rfl)
set_option maxHeartbeats 4000000 in
set_option maxRecDepth 100000 in
theorem w_f_Output_writeWords (C : np_Cx gA p R s m args c D np_cl (np_ty cA) A np_al "NotationParse$Output" prog_4_method_2_code 4 { frames := 2, cells := 0, slots := 0, locals := 46 }) (hQ : ∀ (pc : Nat) (ls : Array Slot) (H : Heap) (locs : List Loc) {σ : np_S}, decode prog_4_method_2_code pc = .ok (.return_, 1) → some ((0 : Int), σ) = some out → np_At D np_cl A (nc_wd q cA) s σ H locs → W p l e R s m args below meth c H locs 0 0 Q (F0 m pc ls []))   : ∀ (x2 : Int) (σ : np_S) (H : Heap) (locs : List Loc) (ls : Array Slot), f_Output_writeWords  x2 σ = some out → np_At D np_cl A (nc_wd q cA) s σ H locs → lv_has ls 4 [(0, .ref (q 26)), (1, .ref (q 6)), (2, .int (np_i x2))] → W p l e R s m args below meth c H locs 0 0 Q (F0 m 0 ls []) := by
  intro x2 σ H locs ls hf hat hl
  unfold f_Output_writeWords at hf
  refine lv_aload_n C.x C.b dd_Output_writeWords_0 rfl (lv_at hl 0 rfl) ?_
  refine lv_iconst (v := np_i 0) C.x C.b dd_Output_writeWords_1 rfl ?_
  refine np_put C i_Output t_Output tok_Output n_Output hat 26 (nc_o26 _) rfl 1 (by decide) tw_197 rfl rfl (by decide +kernel) (np_narI 0) (np_fitI 0) (Nat.le_of_ble_eq_true rfl) (nc_s26_1 _ _) dd_Output_writeWords_2 (fun H locs hat => ?_)
  refine lv_iconst (v := np_i 0) C.x C.b dd_Output_writeWords_5 rfl ?_
  refine lv_istore_n (lv' := [(3, .int (np_i 0)), (0, .ref (q 26)), (1, .ref (q 6)), (2, .int (np_i x2))]) C.x C.b dd_Output_writeWords_6 rfl hl (by decide) rfl (fun ls hl => ?_)
  exact w_f_Output_writeWords_7 C hQ  6000 _ _ _ _ _ _ hf hat (lv_sub hl [1, 2, 3, 0] rfl)
set_option maxHeartbeats 4000000 in
set_option maxRecDepth 100000 in
theorem c_Output_writeWords (l : Launch) {gA : Nat → Nat} {D : va_G} {q : Nat → Nat} {cA : Nat → ClassId} (x2 : Int) (σ : np_S) : np_Mv gA l D np_cl (np_ty cA) (nc_wd q cA) yy_Output_writeWords (.code yy_Output_writeWords prog_4_method_2_code 4 none :: np_al) { frames := 2, cells := 0, slots := 0, locals := 46 } [.ref (q 26), .ref (q 6), .int (np_i x2)] σ (f_Output_writeWords x2 σ) :=
  np_mkv (by decide +kernel) (Nat.le_of_ble_eq_true rfl) (fun o p e R s m args below meth c Q A ls hf C hQ hat hl => w_f_Output_writeWords C hQ x2 σ _ _ _ hf hat (lv_sub hl [0, 1, 2] rfl))
set_option maxHeartbeats 4000000 in
set_option maxRecDepth 100000 in
theorem w_f_N_at_28 (C : np_Cx gA p R s m args c D np_cl (np_ty cA) A np_al "NotationParse" prog_1_method_13_code 2 { frames := 0, cells := 0, slots := 0, locals := 0 }) (hQ : ∀ (pc : Nat) (ls : Array Slot) (H : Heap) (locs : List Loc) (v : Int) {σ : np_S}, decode prog_1_method_13_code pc = .ok (.ireturn, 1) → some (v, σ) = some out → np_At D np_cl A (nc_wd q cA) s σ H locs → W p l e R s m args below meth c H locs 0 0 Q (F0 m pc ls [.int (np_i v)]))   : ∀ (t0 : Int) (σ : np_S) (H : Heap) (locs : List Loc) (ls : Array Slot), f_N_at_28  t0 σ = some out → np_At D np_cl A (nc_wd q cA) s σ H locs → lv_has ls 2 [] → W p l e R s m args below meth c H locs 0 0 Q (F0 m 28 ls [.int (np_i t0)]) := by
  intro t0 σ H locs ls hf hat hl
  unfold f_N_at_28 at hf
  exact hQ _ _ _ _ _ dd_N_at_28 hf hat
set_option maxHeartbeats 4000000 in
set_option maxRecDepth 100000 in
theorem w_f_N_at_15 (C : np_Cx gA p R s m args c D np_cl (np_ty cA) A np_al "NotationParse" prog_1_method_13_code 2 { frames := 0, cells := 0, slots := 0, locals := 0 }) (hQ : ∀ (pc : Nat) (ls : Array Slot) (H : Heap) (locs : List Loc) (v : Int) {σ : np_S}, decode prog_1_method_13_code pc = .ok (.ireturn, 1) → some (v, σ) = some out → np_At D np_cl A (nc_wd q cA) s σ H locs → W p l e R s m args below meth c H locs 0 0 Q (F0 m pc ls [.int (np_i v)]))   : ∀ (σ : np_S) (H : Heap) (locs : List Loc) (ls : Array Slot), f_N_at_15  σ = some out → np_At D np_cl A (nc_wd q cA) s σ H locs → lv_has ls 2 [] → W p l e R s m args below meth c H locs 0 0 Q (F0 m 15 ls []) := by
  intro σ H locs ls hf hat hl
  unfold f_N_at_15 at hf
  refine lv_iconst (v := np_i (-1)) C.x C.b dd_N_at_15 rfl ?_
  refine lv_goto (tgt := 28) C.x C.b dd_N_at_16 (by decide) ?_
  exact w_f_N_at_28 C hQ  _ _ _ _ _ hf hat (lv_sub hl [] rfl)
set_option maxHeartbeats 4000000 in
set_option maxRecDepth 100000 in
theorem w_f_N_at (C : np_Cx gA p R s m args c D np_cl (np_ty cA) A np_al "NotationParse" prog_1_method_13_code 2 { frames := 0, cells := 0, slots := 0, locals := 0 }) (hQ : ∀ (pc : Nat) (ls : Array Slot) (H : Heap) (locs : List Loc) (v : Int) {σ : np_S}, decode prog_1_method_13_code pc = .ok (.ireturn, 1) → some (v, σ) = some out → np_At D np_cl A (nc_wd q cA) s σ H locs → W p l e R s m args below meth c H locs 0 0 Q (F0 m pc ls [.int (np_i v)]))   : ∀ (x1 : Int) (σ : np_S) (H : Heap) (locs : List Loc) (ls : Array Slot), f_N_at  x1 σ = some out → np_At D np_cl A (nc_wd q cA) s σ H locs → lv_has ls 2 [(0, .ref (q 0)), (1, .int (np_i x1))] → W p l e R s m args below meth c H locs 0 0 Q (F0 m 0 ls []) := by
  intro x1 σ H locs ls hf hat hl
  unfold f_N_at at hf
  refine lv_iload_n C.x C.b dd_N_at_0 rfl (lv_at hl 1 rfl) ?_
  refine np_if_lt (tgt := 15) C dd_N_at_1 (by decide) hf (fun _ hf => ?_) (fun _ hf => ?_)
  · exact w_f_N_at_15 C hQ   _ _ _ _ hf hat (lv_sub hl [] rfl)
  · refine lv_iload_n C.x C.b dd_N_at_4 rfl (lv_at hl 1 rfl) ?_
    refine lv_aload_n C.x C.b dd_N_at_5 rfl (lv_at hl 0 rfl) ?_
    refine np_get (v := .ref (q 26)) C i_N hat.1 0 (nc_o0 _) rfl 4 (by decide) tw_208 rfl rfl dd_N_at_6 ?_
    refine np_get (v := .int (np_i (σ 26 1))) C i_Output hat.1 26 (nc_o26 _) rfl 1 (by decide) tw_198 rfl rfl dd_N_at_9 ?_
    refine np_icmp_lt (tgt := 19) C dd_N_at_12 (by decide) hf (fun _ hf => ?_) (fun _ hf => ?_)
    · refine lv_aload_n C.x C.b dd_N_at_19 rfl (lv_at hl 0 rfl) ?_
      refine np_get (v := .ref (q 26)) C i_N hat.1 0 (nc_o0 _) rfl 4 (by decide) tw_208 rfl rfl dd_N_at_20 ?_
      refine np_get (v := .ref (q 27)) C i_Output hat.1 26 (nc_o26 _) rfl 0 (by decide) tw_196 rfl rfl dd_N_at_23 ?_
      refine lv_iload_n C.x C.b dd_N_at_26 rfl (lv_at hl 1 rfl) ?_
      refine np_baload C hat.1 27 (nc_a27 _) 2 rfl (by decide) dd_N_at_27 hf (fun hf => ?_)
      exact w_f_N_at_28 C hQ  _ _ _ _ _ hf hat (lv_sub hl [] rfl)
    · exact w_f_N_at_15 C hQ   _ _ _ _ hf hat (lv_sub hl [] rfl)
set_option maxHeartbeats 4000000 in
set_option maxRecDepth 100000 in
theorem c_N_at (l : Launch) {gA : Nat → Nat} {D : va_G} {q : Nat → Nat} {cA : Nat → ClassId} (x1 : Int) (σ : np_S) : np_Mi gA l D np_cl (np_ty cA) (nc_wd q cA) yy_N_at (.code yy_N_at prog_1_method_13_code 2 (some .int) :: np_al) { frames := 0, cells := 0, slots := 0, locals := 0 } [.ref (q 0), .int (np_i x1)] σ (f_N_at x1 σ) :=
  np_mki (by decide +kernel) (Nat.le_of_ble_eq_true rfl) (fun o p e R s m args below meth c Q A ls hf C hQ hat hl => w_f_N_at C hQ x1 σ _ _ _ hf hat (lv_sub hl [0, 1] rfl))
set_option maxHeartbeats 4000000 in
set_option maxRecDepth 100000 in
theorem w_f_Spelling_isSpelled_11 (C : np_Cx gA p R s m args c D np_cl (np_ty cA) A np_al "NotationParse$Spelling" prog_5_method_5_code 5 { frames := 5, cells := 0, slots := 0, locals := 111 }) (hQ : ∀ (pc : Nat) (ls : Array Slot) (H : Heap) (locs : List Loc) (v : Int) {σ : np_S}, decode prog_5_method_5_code pc = .ok (.ireturn, 1) → np_ck (v = 0 ∨ v = 1) (some (v, σ)) = some out → np_At D np_cl A (nc_wd q cA) s σ H locs → W p l e R s m args below meth c H locs 0 0 Q (F0 m pc ls [.int (np_i v)]))   : ∀ (σ : np_S) (H : Heap) (locs : List Loc) (ls : Array Slot), f_Spelling_isSpelled_11  σ = some out → np_At D np_cl A (nc_wd q cA) s σ H locs → lv_has ls 5 [] → W p l e R s m args below meth c H locs 0 0 Q (F0 m 11 ls []) := by
  intro σ H locs ls hf hat hl
  unfold f_Spelling_isSpelled_11 at hf
  refine lv_iconst (v := np_i 0) C.x C.b dd_Spelling_isSpelled_11 rfl ?_
  exact hQ _ _ _ _ _ dd_Spelling_isSpelled_12 hf hat
set_option maxHeartbeats 4000000 in
set_option maxRecDepth 100000 in
theorem w_f_Spelling_isSpelled_41 (C : np_Cx gA p R s m args c D np_cl (np_ty cA) A np_al "NotationParse$Spelling" prog_5_method_5_code 5 { frames := 5, cells := 0, slots := 0, locals := 111 }) (hQ : ∀ (pc : Nat) (ls : Array Slot) (H : Heap) (locs : List Loc) (v : Int) {σ : np_S}, decode prog_5_method_5_code pc = .ok (.ireturn, 1) → np_ck (v = 0 ∨ v = 1) (some (v, σ)) = some out → np_At D np_cl A (nc_wd q cA) s σ H locs → W p l e R s m args below meth c H locs 0 0 Q (F0 m pc ls [.int (np_i v)]))   : ∀ (σ : np_S) (H : Heap) (locs : List Loc) (ls : Array Slot), f_Spelling_isSpelled_41  σ = some out → np_At D np_cl A (nc_wd q cA) s σ H locs → lv_has ls 5 [] → W p l e R s m args below meth c H locs 0 0 Q (F0 m 41 ls []) := by
  intro σ H locs ls hf hat hl
  unfold f_Spelling_isSpelled_41 at hf
  refine lv_iconst (v := np_i 0) C.x C.b dd_Spelling_isSpelled_41 rfl ?_
  exact hQ _ _ _ _ _ dd_Spelling_isSpelled_42 hf hat
set_option maxHeartbeats 4000000 in
set_option maxRecDepth 100000 in
theorem w_f_Spelling_isSpelled_46 (C : np_Cx gA p R s m args c D np_cl (np_ty cA) A np_al "NotationParse$Spelling" prog_5_method_5_code 5 { frames := 5, cells := 0, slots := 0, locals := 111 }) (hQ : ∀ (pc : Nat) (ls : Array Slot) (H : Heap) (locs : List Loc) (v : Int) {σ : np_S}, decode prog_5_method_5_code pc = .ok (.ireturn, 1) → np_ck (v = 0 ∨ v = 1) (some (v, σ)) = some out → np_At D np_cl A (nc_wd q cA) s σ H locs → W p l e R s m args below meth c H locs 0 0 Q (F0 m pc ls [.int (np_i v)]))   : ∀ (n : Nat), ∀ (x0 x2 x3 x4 : Int) (σ : np_S) (H : Heap) (locs : List Loc) (ls : Array Slot), f_Spelling_isSpelled_46  n x0 x2 x3 x4 σ = some out → np_At D np_cl A (nc_wd q cA) s σ H locs → lv_has ls 5 [(0, .long (np_l x0)), (2, .int (np_i x2)), (3, .int (np_i x3)), (4, .int (np_i x4))] → W p l e R s m args below meth c H locs 0 0 Q (F0 m 46 ls []) := by
  intro n
  induction n with
  | zero => intro x0 x2 x3 x4 σ H locs ls hf; cases hf
  | succ n ih =>
    intro x0 x2 x3 x4 σ H locs ls hf hat hl
    have h46 := ih
    have hf : f_Spelling_isSpelled_46_b  (fun x0 x2 x3 x4 σ => f_Spelling_isSpelled_46  n x0 x2 x3 x4 σ) x0 x2 x3 x4 σ = some out := hf
    unfold f_Spelling_isSpelled_46_b at hf
    refine lv_iload C.x C.b dd_Spelling_isSpelled_46 (lv_at hl 3 rfl) ?_
    refine lv_iload_n C.x C.b dd_Spelling_isSpelled_48 rfl (lv_at hl 1 rfl) ?_
    refine np_icmp_ge (tgt := 73) C dd_Spelling_isSpelled_49 (by decide) hf (fun _ hf => ?_) (fun _ hf => ?_)
    · refine lv_iconst (v := np_i 1) C.x C.b dd_Spelling_isSpelled_73 rfl ?_
      exact hQ _ _ _ _ _ dd_Spelling_isSpelled_74 hf hat
    · refine lv_lload_n C.x C.b dd_Spelling_isSpelled_52 rfl (lv_at hl 0 rfl) ?_
      refine lv_iload C.x C.b dd_Spelling_isSpelled_53 (lv_at hl 3 rfl) ?_
      refine np_callSi (As := [.long (np_l x0), .int (np_i x4)]) (rest := []) C (c_Spelling_byteOf l x0 x4 _) np_allgood tw_256 tw_235 tw_14 tw_236 (nA := 2) (by decide +kernel) rfl ⟨rfl, rfl, Nat.le_of_ble_eq_true rfl, Nat.le_of_ble_eq_true rfl⟩ hat rfl hl.1 (Nat.le_of_ble_eq_true rfl) dd_Spelling_isSpelled_55 hf (fun o1 H locs hf hat => ?_)
      refine np_callSi (As := [.int (np_i o1.1)]) (rest := []) C (c_Spelling_kindOf l o1.1 _) np_allgood tw_257 tw_258 tw_14 tw_259 (nA := 1) (by decide +kernel) rfl ⟨rfl, rfl, Nat.le_of_ble_eq_true rfl, Nat.le_of_ble_eq_true rfl⟩ hat rfl hl.1 (Nat.le_of_ble_eq_true rfl) dd_Spelling_isSpelled_58 hf (fun o2 H locs hf hat => ?_)
      refine lv_iload_n C.x C.b dd_Spelling_isSpelled_61 rfl (lv_at hl 2 rfl) ?_
      refine np_icmp_eq (tgt := 67) C dd_Spelling_isSpelled_62 (by decide) hf (fun _ hf => ?_) (fun _ hf => ?_)
      · refine lv_iinc (v := np_i (x4 + 1)) (lv' := [(4, .int (np_i (x4 + 1))), (0, .long (np_l x0)), (2, .int (np_i x2)), (3, .int (np_i x3))]) C.x C.b dd_Spelling_isSpelled_67 hl (k := 3) rfl (np_inc _ _) (by decide) rfl (fun ls hl => ?_)
        refine lv_goto (tgt := 46) C.x C.b dd_Spelling_isSpelled_70 (by decide) ?_
        exact h46 _ _ _ _ _ _ _ _ hf hat (lv_sub hl [1, 2, 3, 0] rfl)
      · refine lv_iconst (v := np_i 0) C.x C.b dd_Spelling_isSpelled_65 rfl ?_
        exact hQ _ _ _ _ _ dd_Spelling_isSpelled_66 hf hat
set_option maxHeartbeats 4000000 in
set_option maxRecDepth 100000 in
theorem w_f_Spelling_isSpelled_43 (C : np_Cx gA p R s m args c D np_cl (np_ty cA) A np_al "NotationParse$Spelling" prog_5_method_5_code 5 { frames := 5, cells := 0, slots := 0, locals := 111 }) (hQ : ∀ (pc : Nat) (ls : Array Slot) (H : Heap) (locs : List Loc) (v : Int) {σ : np_S}, decode prog_5_method_5_code pc = .ok (.ireturn, 1) → np_ck (v = 0 ∨ v = 1) (some (v, σ)) = some out → np_At D np_cl A (nc_wd q cA) s σ H locs → W p l e R s m args below meth c H locs 0 0 Q (F0 m pc ls [.int (np_i v)]))   : ∀ (x0 x2 x3 : Int) (σ : np_S) (H : Heap) (locs : List Loc) (ls : Array Slot), f_Spelling_isSpelled_43  x0 x2 x3 σ = some out → np_At D np_cl A (nc_wd q cA) s σ H locs → lv_has ls 5 [(0, .long (np_l x0)), (2, .int (np_i x2)), (3, .int (np_i x3))] → W p l e R s m args below meth c H locs 0 0 Q (F0 m 43 ls []) := by
  intro x0 x2 x3 σ H locs ls hf hat hl
  unfold f_Spelling_isSpelled_43 at hf
  refine lv_iconst (v := np_i 1) C.x C.b dd_Spelling_isSpelled_43 rfl ?_
  refine lv_istore (lv' := [(4, .int (np_i 1)), (0, .long (np_l x0)), (2, .int (np_i x2)), (3, .int (np_i x3))]) C.x C.b dd_Spelling_isSpelled_44 hl (by decide) rfl (fun ls hl => ?_)
  exact w_f_Spelling_isSpelled_46 C hQ  6000 _ _ _ _ _ _ _ _ hf hat (lv_sub hl [1, 2, 3, 0] rfl)
set_option maxHeartbeats 4000000 in
set_option maxRecDepth 100000 in
theorem w_f_Spelling_isSpelled (C : np_Cx gA p R s m args c D np_cl (np_ty cA) A np_al "NotationParse$Spelling" prog_5_method_5_code 5 { frames := 5, cells := 0, slots := 0, locals := 111 }) (hQ : ∀ (pc : Nat) (ls : Array Slot) (H : Heap) (locs : List Loc) (v : Int) {σ : np_S}, decode prog_5_method_5_code pc = .ok (.ireturn, 1) → np_ck (v = 0 ∨ v = 1) (some (v, σ)) = some out → np_At D np_cl A (nc_wd q cA) s σ H locs → W p l e R s m args below meth c H locs 0 0 Q (F0 m pc ls [.int (np_i v)]))   : ∀ (x0 x2 : Int) (σ : np_S) (H : Heap) (locs : List Loc) (ls : Array Slot), f_Spelling_isSpelled  x0 x2 σ = some out → np_At D np_cl A (nc_wd q cA) s σ H locs → lv_has ls 5 [(0, .long (np_l x0)), (2, .int (np_i x2))] → W p l e R s m args below meth c H locs 0 0 Q (F0 m 0 ls []) := by
  intro x0 x2 σ H locs ls hf hat hl
  unfold f_Spelling_isSpelled at hf
  refine lv_iload_n C.x C.b dd_Spelling_isSpelled_0 rfl (lv_at hl 1 rfl) ?_
  refine lv_iconst (v := np_i 1) C.x C.b dd_Spelling_isSpelled_1 rfl ?_
  refine np_icmp_lt (tgt := 11) C dd_Spelling_isSpelled_2 (by decide) hf (fun _ hf => ?_) (fun _ hf => ?_)
  · exact w_f_Spelling_isSpelled_11 C hQ   _ _ _ _ hf hat (lv_sub hl [] rfl)
  · refine lv_iload_n C.x C.b dd_Spelling_isSpelled_5 rfl (lv_at hl 1 rfl) ?_
    refine lv_bipush (v := np_i 8) C.x C.b dd_Spelling_isSpelled_6 (by decide +kernel) ?_
    refine np_icmp_le (tgt := 13) C dd_Spelling_isSpelled_8 (by decide) hf (fun _ hf => ?_) (fun _ hf => ?_)
    · refine lv_lload_n C.x C.b dd_Spelling_isSpelled_13 rfl (lv_at hl 0 rfl) ?_
      refine lv_iconst (v := np_i 0) C.x C.b dd_Spelling_isSpelled_14 rfl ?_
      refine np_callSi (As := [.long (np_l x0), .int (np_i 0)]) (rest := []) C (c_Spelling_byteOf l x0 0 _) np_allgood tw_256 tw_235 tw_14 tw_236 (nA := 2) (by decide +kernel) rfl ⟨rfl, rfl, Nat.le_of_ble_eq_true rfl, Nat.le_of_ble_eq_true rfl⟩ hat rfl hl.1 (Nat.le_of_ble_eq_true rfl) dd_Spelling_isSpelled_15 hf (fun o3 H locs hf hat => ?_)
      refine np_callSi (As := [.int (np_i o3.1)]) (rest := []) C (c_Spelling_kindOf l o3.1 _) np_allgood tw_257 tw_258 tw_14 tw_259 (nA := 1) (by decide +kernel) rfl ⟨rfl, rfl, Nat.le_of_ble_eq_true rfl, Nat.le_of_ble_eq_true rfl⟩ hat rfl hl.1 (Nat.le_of_ble_eq_true rfl) dd_Spelling_isSpelled_18 hf (fun o4 H locs hf hat => ?_)
      refine lv_istore_n (lv' := [(3, .int (np_i o4.1)), (0, .long (np_l x0)), (2, .int (np_i x2))]) C.x C.b dd_Spelling_isSpelled_21 rfl hl (by decide) rfl (fun ls hl => ?_)
      refine lv_iload_n C.x C.b dd_Spelling_isSpelled_22 rfl (lv_at hl 0 rfl) ?_
      refine np_if_eq (tgt := 41) C dd_Spelling_isSpelled_23 (by decide) hf (fun _ hf => ?_) (fun _ hf => ?_)
      · exact w_f_Spelling_isSpelled_41 C hQ   _ _ _ _ hf hat (lv_sub hl [] rfl)
      · refine lv_iload_n C.x C.b dd_Spelling_isSpelled_26 rfl (lv_at hl 0 rfl) ?_
        refine lv_iconst (v := np_i 1) C.x C.b dd_Spelling_isSpelled_27 rfl ?_
        refine np_icmp_eq (tgt := 41) C dd_Spelling_isSpelled_28 (by decide) hf (fun _ hf => ?_) (fun _ hf => ?_)
        · exact w_f_Spelling_isSpelled_41 C hQ   _ _ _ _ hf hat (lv_sub hl [] rfl)
        · refine lv_iload_n C.x C.b dd_Spelling_isSpelled_31 rfl (lv_at hl 0 rfl) ?_
          refine lv_iconst (v := np_i 5) C.x C.b dd_Spelling_isSpelled_32 rfl ?_
          refine np_icmp_ne (tgt := 43) C dd_Spelling_isSpelled_33 (by decide) hf (fun _ hf => ?_) (fun _ hf => ?_)
          · exact w_f_Spelling_isSpelled_43 C hQ  _ _ _ _ _ _ _ hf hat (lv_sub hl [1, 2, 0] rfl)
          · refine lv_iload_n C.x C.b dd_Spelling_isSpelled_36 rfl (lv_at hl 2 rfl) ?_
            refine lv_iconst (v := np_i 1) C.x C.b dd_Spelling_isSpelled_37 rfl ?_
            refine np_icmp_le (tgt := 43) C dd_Spelling_isSpelled_38 (by decide) hf (fun _ hf => ?_) (fun _ hf => ?_)
            · exact w_f_Spelling_isSpelled_43 C hQ  _ _ _ _ _ _ _ hf hat (lv_sub hl [1, 2, 0] rfl)
            · exact w_f_Spelling_isSpelled_41 C hQ   _ _ _ _ hf hat (lv_sub hl [] rfl)
    · exact w_f_Spelling_isSpelled_11 C hQ   _ _ _ _ hf hat (lv_sub hl [] rfl)
set_option maxHeartbeats 4000000 in
set_option maxRecDepth 100000 in
theorem c_Spelling_isSpelled (l : Launch) {gA : Nat → Nat} {D : va_G} {q : Nat → Nat} {cA : Nat → ClassId} (x0 x2 : Int) (σ : np_S) : np_Mi gA l D np_cl (np_ty cA) (nc_wd q cA) yy_Spelling_isSpelled (.code yy_Spelling_isSpelled prog_5_method_5_code 5 (some .boolean) :: np_al) { frames := 5, cells := 0, slots := 0, locals := 111 } [.long (np_l x0), .int (np_i x2)] σ (f_Spelling_isSpelled x0 x2 σ) :=
  np_mkz (by decide +kernel) (Nat.le_of_ble_eq_true rfl) (fun o p e R s m args below meth c Q A ls hf C hQ hat hl => w_f_Spelling_isSpelled C hQ x0 x2 σ _ _ _ hf hat (lv_sub hl [0, 1] rfl))
set_option maxHeartbeats 4000000 in
set_option maxRecDepth 100000 in
theorem w_f_Spelling_lowBytes_20 (C : np_Cx gA p R s m args c D np_cl (np_ty cA) A np_al "NotationParse$Spelling" prog_5_method_4_code 3 { frames := 0, cells := 0, slots := 0, locals := 0 }) (hQ : ∀ (pc : Nat) (ls : Array Slot) (H : Heap) (locs : List Loc) (v : Int) {σ : np_S}, decode prog_5_method_4_code pc = .ok (.lreturn, 1) → some (v, σ) = some out → np_At D np_cl A (nc_wd q cA) s σ H locs → W p l e R s m args below meth c H locs 0 0 Q (F0 m pc ls [.long (np_l v)]))   : ∀ (t0 : Int) (σ : np_S) (H : Heap) (locs : List Loc) (ls : Array Slot), f_Spelling_lowBytes_20  t0 σ = some out → np_At D np_cl A (nc_wd q cA) s σ H locs → lv_has ls 3 [] → W p l e R s m args below meth c H locs 0 0 Q (F0 m 20 ls [.long (np_l t0)]) := by
  intro t0 σ H locs ls hf hat hl
  unfold f_Spelling_lowBytes_20 at hf
  exact hQ _ _ _ _ _ dd_Spelling_lowBytes_20 hf hat
set_option maxHeartbeats 4000000 in
set_option maxRecDepth 100000 in
theorem w_f_Spelling_lowBytes (C : np_Cx gA p R s m args c D np_cl (np_ty cA) A np_al "NotationParse$Spelling" prog_5_method_4_code 3 { frames := 0, cells := 0, slots := 0, locals := 0 }) (hQ : ∀ (pc : Nat) (ls : Array Slot) (H : Heap) (locs : List Loc) (v : Int) {σ : np_S}, decode prog_5_method_4_code pc = .ok (.lreturn, 1) → some (v, σ) = some out → np_At D np_cl A (nc_wd q cA) s σ H locs → W p l e R s m args below meth c H locs 0 0 Q (F0 m pc ls [.long (np_l v)]))   : ∀ (x0 x2 : Int) (σ : np_S) (H : Heap) (locs : List Loc) (ls : Array Slot), f_Spelling_lowBytes  x0 x2 σ = some out → np_At D np_cl A (nc_wd q cA) s σ H locs → lv_has ls 3 [(0, .long (np_l x0)), (2, .int (np_i x2))] → W p l e R s m args below meth c H locs 0 0 Q (F0 m 0 ls []) := by
  intro x0 x2 σ H locs ls hf hat hl
  unfold f_Spelling_lowBytes at hf
  refine lv_iload_n C.x C.b dd_Spelling_lowBytes_0 rfl (lv_at hl 1 rfl) ?_
  refine lv_bipush (v := np_i 8) C.x C.b dd_Spelling_lowBytes_1 (by decide +kernel) ?_
  refine np_icmp_lt (tgt := 10) C dd_Spelling_lowBytes_3 (by decide) hf (fun _ hf => ?_) (fun _ hf => ?_)
  · refine lv_lload_n C.x C.b dd_Spelling_lowBytes_10 rfl (lv_at hl 0 rfl) ?_
    refine lv_lconst (v := np_l 1) C.x C.b dd_Spelling_lowBytes_11 (by decide +kernel) ?_
    refine lv_bipush (v := np_i 8) C.x C.b dd_Spelling_lowBytes_12 (by decide +kernel) ?_
    refine lv_iload_n C.x C.b dd_Spelling_lowBytes_14 rfl (lv_at hl 1 rfl) ?_
    refine np_imul C dd_Spelling_lowBytes_15 ?_
    refine np_lshl C dd_Spelling_lowBytes_16 ?_
    refine lv_lconst (v := np_l 1) C.x C.b dd_Spelling_lowBytes_17 (by decide +kernel) ?_
    refine np_lsub C dd_Spelling_lowBytes_18 ?_
    refine np_land C dd_Spelling_lowBytes_19 ?_
    exact w_f_Spelling_lowBytes_20 C hQ  _ _ _ _ _ hf hat (lv_sub hl [] rfl)
  · refine lv_lload_n C.x C.b dd_Spelling_lowBytes_6 rfl (lv_at hl 0 rfl) ?_
    refine lv_goto (tgt := 20) C.x C.b dd_Spelling_lowBytes_7 (by decide) ?_
    exact w_f_Spelling_lowBytes_20 C hQ  _ _ _ _ _ hf hat (lv_sub hl [] rfl)
set_option maxHeartbeats 4000000 in
set_option maxRecDepth 100000 in
theorem c_Spelling_lowBytes (l : Launch) {gA : Nat → Nat} {D : va_G} {q : Nat → Nat} {cA : Nat → ClassId} (x0 x2 : Int) (σ : np_S) : np_Ml gA l D np_cl (np_ty cA) (nc_wd q cA) yy_Spelling_lowBytes (.code yy_Spelling_lowBytes prog_5_method_4_code 3 (some .long) :: np_al) { frames := 0, cells := 0, slots := 0, locals := 0 } [.long (np_l x0), .int (np_i x2)] σ (f_Spelling_lowBytes x0 x2 σ) :=
  np_mkl (by decide +kernel) (Nat.le_of_ble_eq_true rfl) (fun o p e R s m args below meth c Q A ls hf C hQ hat hl => w_f_Spelling_lowBytes C hQ x0 x2 σ _ _ _ hf hat (lv_sub hl [0, 1] rfl))
set_option maxHeartbeats 4000000 in
set_option maxRecDepth 100000 in
theorem w_f_N_isKey_28 (C : np_Cx gA p R s m args c D np_cl (np_ty cA) A np_al "NotationParse" prog_1_method_14_code 4 { frames := 6, cells := 0, slots := 0, locals := 135 }) (hQ : ∀ (pc : Nat) (ls : Array Slot) (H : Heap) (locs : List Loc) (v : Int) {σ : np_S}, decode prog_1_method_14_code pc = .ok (.ireturn, 1) → np_ck (v = 0 ∨ v = 1) (some (v, σ)) = some out → np_At D np_cl A (nc_wd q cA) s σ H locs → W p l e R s m args below meth c H locs 0 0 Q (F0 m pc ls [.int (np_i v)]))   : ∀ (t0 : Int) (σ : np_S) (H : Heap) (locs : List Loc) (ls : Array Slot), f_N_isKey_28  t0 σ = some out → np_At D np_cl A (nc_wd q cA) s σ H locs → lv_has ls 4 [] → W p l e R s m args below meth c H locs 0 0 Q (F0 m 28 ls [.int (np_i t0)]) := by
  intro t0 σ H locs ls hf hat hl
  unfold f_N_isKey_28 at hf
  exact hQ _ _ _ _ _ dd_N_isKey_28 hf hat
set_option maxHeartbeats 4000000 in
set_option maxRecDepth 100000 in
theorem w_f_N_isKey_27 (C : np_Cx gA p R s m args c D np_cl (np_ty cA) A np_al "NotationParse" prog_1_method_14_code 4 { frames := 6, cells := 0, slots := 0, locals := 135 }) (hQ : ∀ (pc : Nat) (ls : Array Slot) (H : Heap) (locs : List Loc) (v : Int) {σ : np_S}, decode prog_1_method_14_code pc = .ok (.ireturn, 1) → np_ck (v = 0 ∨ v = 1) (some (v, σ)) = some out → np_At D np_cl A (nc_wd q cA) s σ H locs → W p l e R s m args below meth c H locs 0 0 Q (F0 m pc ls [.int (np_i v)]))   : ∀ (σ : np_S) (H : Heap) (locs : List Loc) (ls : Array Slot), f_N_isKey_27  σ = some out → np_At D np_cl A (nc_wd q cA) s σ H locs → lv_has ls 4 [] → W p l e R s m args below meth c H locs 0 0 Q (F0 m 27 ls []) := by
  intro σ H locs ls hf hat hl
  unfold f_N_isKey_27 at hf
  refine lv_iconst (v := np_i 0) C.x C.b dd_N_isKey_27 rfl ?_
  exact w_f_N_isKey_28 C hQ  _ _ _ _ _ hf hat (lv_sub hl [] rfl)
set_option maxHeartbeats 4000000 in
set_option maxRecDepth 100000 in
theorem w_f_N_isKey (C : np_Cx gA p R s m args c D np_cl (np_ty cA) A np_al "NotationParse" prog_1_method_14_code 4 { frames := 6, cells := 0, slots := 0, locals := 135 }) (hQ : ∀ (pc : Nat) (ls : Array Slot) (H : Heap) (locs : List Loc) (v : Int) {σ : np_S}, decode prog_1_method_14_code pc = .ok (.ireturn, 1) → np_ck (v = 0 ∨ v = 1) (some (v, σ)) = some out → np_At D np_cl A (nc_wd q cA) s σ H locs → W p l e R s m args below meth c H locs 0 0 Q (F0 m pc ls [.int (np_i v)]))   : ∀ (x1 x3 : Int) (σ : np_S) (H : Heap) (locs : List Loc) (ls : Array Slot), f_N_isKey  x1 x3 σ = some out → np_At D np_cl A (nc_wd q cA) s σ H locs → lv_has ls 4 [(0, .ref (q 0)), (1, .long (np_l x1)), (3, .int (np_i x3))] → W p l e R s m args below meth c H locs 0 0 Q (F0 m 0 ls []) := by
  intro x1 x3 σ H locs ls hf hat hl
  unfold f_N_isKey at hf
  refine lv_lload_n C.x C.b dd_N_isKey_0 rfl (lv_at hl 1 rfl) ?_
  refine lv_iload_n C.x C.b dd_N_isKey_1 rfl (lv_at hl 2 rfl) ?_
  refine np_callSi (As := [.long (np_l x1), .int (np_i x3)]) (rest := []) C (c_Spelling_isSpelled l x1 x3 _) np_allgood tw_253 tw_254 tw_14 tw_255 (nA := 2) (by decide +kernel) rfl ⟨rfl, rfl, Nat.le_of_ble_eq_true rfl, Nat.le_of_ble_eq_true rfl⟩ hat rfl hl.1 (Nat.le_of_ble_eq_true rfl) dd_N_isKey_2 hf (fun o1 H locs hf hat => ?_)
  refine np_if_eq (tgt := 27) C dd_N_isKey_5 (by decide) hf (fun _ hf => ?_) (fun _ hf => ?_)
  · exact w_f_N_isKey_27 C hQ   _ _ _ _ hf hat (lv_sub hl [] rfl)
  · refine lv_aload_n C.x C.b dd_N_isKey_8 rfl (lv_at hl 0 rfl) ?_
    refine np_get (v := .ref (q 1)) C i_N hat.1 0 (nc_o0 _) rfl 0 (by decide) tw_204 rfl rfl dd_N_isKey_9 ?_
    refine lv_lload_n C.x C.b dd_N_isKey_12 rfl (lv_at hl 1 rfl) ?_
    refine lv_iload_n C.x C.b dd_N_isKey_13 rfl (lv_at hl 2 rfl) ?_
    refine np_callSl (As := [.long (np_l x1), .int (np_i x3)]) (rest := [.ref (q 1)]) C (c_Spelling_lowBytes l x1 x3 _) np_allgood tw_348 tw_349 tw_14 tw_350 (nA := 2) (by decide +kernel) rfl ⟨rfl, rfl, Nat.le_of_ble_eq_true rfl, Nat.le_of_ble_eq_true rfl⟩ hat rfl hl.1 (Nat.le_of_ble_eq_true rfl) dd_N_isKey_14 hf (fun o2 H locs hf hat => ?_)
    refine np_callVi (As := [.long (np_l o2.1)]) (rest := []) C (c_Grammar_hasKey l o2.1 _) np_allgood tw_351 tw_352 tw_353 tw_2 tw_354 (nA := 1) (by decide +kernel) rfl ⟨rfl, rfl, Nat.le_of_ble_eq_true rfl, Nat.le_of_ble_eq_true rfl⟩ (va_recv C.k hat.1 (ci := 1) (q0 := 1) rfl (nc_o1 _)) hat rfl hl.1 (Nat.le_of_ble_eq_true rfl) dd_N_isKey_17 hf (fun o3 H locs hf hat => ?_)
    refine np_if_eq (tgt := 27) C dd_N_isKey_20 (by decide) hf (fun _ hf => ?_) (fun _ hf => ?_)
    · exact w_f_N_isKey_27 C hQ   _ _ _ _ hf hat (lv_sub hl [] rfl)
    · refine lv_iconst (v := np_i 1) C.x C.b dd_N_isKey_23 rfl ?_
      refine lv_goto (tgt := 28) C.x C.b dd_N_isKey_24 (by decide) ?_
      exact w_f_N_isKey_28 C hQ  _ _ _ _ _ hf hat (lv_sub hl [] rfl)
set_option maxHeartbeats 4000000 in
set_option maxRecDepth 100000 in
theorem c_N_isKey (l : Launch) {gA : Nat → Nat} {D : va_G} {q : Nat → Nat} {cA : Nat → ClassId} (x1 x3 : Int) (σ : np_S) : np_Mi gA l D np_cl (np_ty cA) (nc_wd q cA) yy_N_isKey (.code yy_N_isKey prog_1_method_14_code 4 (some .boolean) :: np_al) { frames := 6, cells := 0, slots := 0, locals := 135 } [.ref (q 0), .long (np_l x1), .int (np_i x3)] σ (f_N_isKey x1 x3 σ) :=
  np_mkz (by decide +kernel) (Nat.le_of_ble_eq_true rfl) (fun o p e R s m args below meth c Q A ls hf C hQ hat hl => w_f_N_isKey C hQ x1 x3 σ _ _ _ hf hat (lv_sub hl [0, 1, 2] rfl))
set_option maxHeartbeats 4000000 in
set_option maxRecDepth 100000 in
theorem w_f_N_about (C : np_Cx gA p R s m args c D np_cl (np_ty cA) A np_al "NotationParse" prog_1_method_15_code 2 { frames := 0, cells := 0, slots := 0, locals := 0 }) (hQ : ∀ (pc : Nat) (ls : Array Slot) (H : Heap) (locs : List Loc) (v : Int) {σ : np_S}, decode prog_1_method_15_code pc = .ok (.ireturn, 1) → some (v, σ) = some out → np_At D np_cl A (nc_wd q cA) s σ H locs → W p l e R s m args below meth c H locs 0 0 Q (F0 m pc ls [.int (np_i v)]))   : ∀ (x1 : Int) (σ : np_S) (H : Heap) (locs : List Loc) (ls : Array Slot), f_N_about  x1 σ = some out → np_At D np_cl A (nc_wd q cA) s σ H locs → lv_has ls 2 [(0, .ref (q 0)), (1, .int (np_i x1))] → W p l e R s m args below meth c H locs 0 0 Q (F0 m 0 ls []) := by
  intro x1 σ H locs ls hf hat hl
  unfold f_N_about at hf
  refine lv_iload_n C.x C.b dd_N_about_0 rfl (lv_at hl 1 rfl) ?_
  obtain ⟨hR, hf⟩ := np_ck_e hf
  refine np_case hf (fun hx hf => ?_) (fun n0 hf => ?_)
  · refine np_tswI (tgt := 36) (off := 35) C dd_N_about_1 hx (by decide +kernel) (by decide +kernel) (by decide +kernel) (by decide) ?_
    refine lv_aload_n C.x C.b dd_N_about_36 rfl (lv_at hl 0 rfl) ?_
    refine np_get (v := .ref (q 1)) C i_N hat.1 0 (nc_o0 _) rfl 0 (by decide) tw_204 rfl rfl dd_N_about_37 ?_
    refine np_get (v := .int (np_i (σ 1 4))) C i_Grammar hat.1 1 (nc_o1 _) rfl 4 (by decide) tw_60 rfl rfl dd_N_about_40 ?_
    refine lv_iconst (v := np_i 2) C.x C.b dd_N_about_43 rfl ?_
    refine np_isub C dd_N_about_44 ?_
    exact hQ _ _ _ _ _ dd_N_about_45 hf hat
  refine np_case hf (fun hx hf => ?_) (fun n1 hf => ?_)
  · refine np_tswI (tgt := 46) (off := 45) C dd_N_about_1 hx (by decide +kernel) (by decide +kernel) (by decide +kernel) (by decide) ?_
    refine lv_aload_n C.x C.b dd_N_about_46 rfl (lv_at hl 0 rfl) ?_
    refine np_get (v := .ref (q 1)) C i_N hat.1 0 (nc_o0 _) rfl 0 (by decide) tw_204 rfl rfl dd_N_about_47 ?_
    refine np_get (v := .int (np_i (σ 1 5))) C i_Grammar hat.1 1 (nc_o1 _) rfl 5 (by decide) tw_63 rfl rfl dd_N_about_50 ?_
    exact hQ _ _ _ _ _ dd_N_about_53 hf hat
  refine np_case hf (fun hx hf => ?_) (fun n2 hf => ?_)
  · refine np_tswI (tgt := 54) (off := 53) C dd_N_about_1 hx (by decide +kernel) (by decide +kernel) (by decide +kernel) (by decide) ?_
    refine lv_aload_n C.x C.b dd_N_about_54 rfl (lv_at hl 0 rfl) ?_
    refine np_get (v := .ref (q 6)) C i_N hat.1 0 (nc_o0 _) rfl 1 (by decide) tw_205 rfl rfl dd_N_about_55 ?_
    refine np_get (v := .int (np_i (σ 6 1))) C i_Text hat.1 6 (nc_o6 _) rfl 1 (by decide) tw_87 rfl rfl dd_N_about_58 ?_
    exact hQ _ _ _ _ _ dd_N_about_61 hf hat
  refine np_case hf (fun hx hf => ?_) (fun n3 hf => ?_)
  · refine np_tswI (tgt := 62) (off := 61) C dd_N_about_1 hx (by decide +kernel) (by decide +kernel) (by decide +kernel) (by decide) ?_
    refine lv_aload_n C.x C.b dd_N_about_62 rfl (lv_at hl 0 rfl) ?_
    refine np_get (v := .ref (q 15)) C i_N hat.1 0 (nc_o0 _) rfl 3 (by decide) tw_207 rfl rfl dd_N_about_63 ?_
    refine np_get (v := .int (np_i (σ 15 2))) C i_Tree hat.1 15 (nc_o15 _) rfl 2 (by decide) tw_143 rfl rfl dd_N_about_66 ?_
    exact hQ _ _ _ _ _ dd_N_about_69 hf hat
  refine np_case hf (fun hx hf => ?_) (fun n4 hf => ?_)
  · refine np_tswI (tgt := 70) (off := 69) C dd_N_about_1 hx (by decide +kernel) (by decide +kernel) (by decide +kernel) (by decide) ?_
    refine lv_aload_n C.x C.b dd_N_about_70 rfl (lv_at hl 0 rfl) ?_
    refine np_get (v := .ref (q 26)) C i_N hat.1 0 (nc_o0 _) rfl 4 (by decide) tw_208 rfl rfl dd_N_about_71 ?_
    refine np_get (v := .int (np_i (σ 26 1))) C i_Output hat.1 26 (nc_o26 _) rfl 1 (by decide) tw_198 rfl rfl dd_N_about_74 ?_
    exact hQ _ _ _ _ _ dd_N_about_77 hf hat
  refine np_tswO (tgt := 78) C dd_N_about_1 hR (by omega) (by decide) ?_
  refine lv_iconst (v := np_i (-1)) C.x C.b dd_N_about_78 rfl ?_
  exact hQ _ _ _ _ _ dd_N_about_79 hf hat
set_option maxHeartbeats 4000000 in
set_option maxRecDepth 100000 in
theorem c_N_about (l : Launch) {gA : Nat → Nat} {D : va_G} {q : Nat → Nat} {cA : Nat → ClassId} (x1 : Int) (σ : np_S) : np_Mi gA l D np_cl (np_ty cA) (nc_wd q cA) yy_N_about (.code yy_N_about prog_1_method_15_code 2 (some .int) :: np_al) { frames := 0, cells := 0, slots := 0, locals := 0 } [.ref (q 0), .int (np_i x1)] σ (f_N_about x1 σ) :=
  np_mki (by decide +kernel) (Nat.le_of_ble_eq_true rfl) (fun o p e R s m args below meth c Q A ls hf C hQ hat hl => w_f_N_about C hQ x1 σ _ _ _ hf hat (lv_sub hl [0, 1] rfl))
end NW4
