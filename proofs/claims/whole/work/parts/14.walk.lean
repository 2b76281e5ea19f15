section NW4
variable {p : Program} {l : Launch} {e : Env} {R : Room} {s : State} {m : MethodId} {args : Array Value} {below : List Frame} {meth : Method} {c : Code} {Q : State → Prop} {D : va_G} {A : Nat → Prop} {q : Nat → Nat} {cI cL cB : ClassId} {out : np_O} {gA : Nat → Nat}
set_option maxHeartbeats 4000000 in
set_option maxRecDepth 100000 in
theorem w_f_Tree_growNode (C : np_Cx gA p R s m args c D np_cl (np_ty cI cL cB) A np_al "NotationParse$Tree" prog_7_method_5_code 4 { frames := 3, cells := 0, slots := 0, locals := 77 }) (hQ : ∀ (pc : Nat) (ls : Array Slot) (H : Heap) (locs : List Loc) {σ : np_S}, decode prog_7_method_5_code pc = .ok (.return_, 1) → some ((0 : Int), σ) = some out → np_At D np_cl A (nc_wd q cI cL cB) s σ H locs → W p l e R s m args below meth c H locs 0 0 Q (F0 m pc ls []))   : ∀ (x1 x2 x3 : Int) (σ : np_S) (H : Heap) (locs : List Loc) (ls : Array Slot), f_Tree_growNode  x1 x2 x3 σ = some out → np_At D np_cl A (nc_wd q cI cL cB) s σ H locs → lv_has ls 4 [(0, .ref (q 15)), (1, .int (np_i x1)), (2, .int (np_i x2)), (3, .int (np_i x3))] → W p l e R s m args below meth c H locs 0 0 Q (F0 m 0 ls []) := by
  intro x1 x2 x3 σ H locs ls hf hat hl
  unfold f_Tree_growNode at hf
  refine lv_aload_n C.x C.b dd_Tree_growNode_0 rfl (lv_at hl 0 rfl) ?_
  refine np_get (v := .ref (q 16)) C i_Tree hat.1 15 (nc_o15 _) rfl 3 (by decide) tw_144 rfl rfl dd_Tree_growNode_1 ?_
  refine lv_iload_n C.x C.b dd_Tree_growNode_4 rfl (lv_at hl 1 rfl) ?_
  refine lv_aload_n C.x C.b dd_Tree_growNode_5 rfl (lv_at hl 0 rfl) ?_
  refine np_get (v := .ref (q 11)) C i_Tree hat.1 15 (nc_o15 _) rfl 1 (by decide) tw_141 rfl rfl dd_Tree_growNode_6 ?_
  refine lv_iload_n C.x C.b dd_Tree_growNode_9 rfl (lv_at hl 2 rfl) ?_
  refine lv_iload_n C.x C.b dd_Tree_growNode_10 rfl (lv_at hl 3 rfl) ?_
  refine lv_aload_n C.x C.b dd_Tree_growNode_11 rfl (lv_at hl 0 rfl) ?_
  refine np_get (v := .ref (q 24)) C i_Tree hat.1 15 (nc_o15 _) rfl 12 (by decide) tw_158 rfl rfl dd_Tree_growNode_12 ?_
  refine lv_aload_n C.x C.b dd_Tree_growNode_15 rfl (lv_at hl 0 rfl) ?_
  refine np_get (v := .int (np_i (σ 15 9))) C i_Tree hat.1 15 (nc_o15 _) rfl 9 (by decide) tw_155 rfl rfl dd_Tree_growNode_16 ?_
  refine np_iaload C hat.1 24 (nc_a24 _) 0 rfl (by decide) dd_Tree_growNode_19 hf (fun hf => ?_)
  refine np_callVi (As := [.int (np_i x2), .int (np_i x3), .int (np_i (σ 24 (σ 15 9)))]) (rest := [.int (np_i x1), .ref (q 16)]) C (c_Chart_onlyRule l x2 x3 (σ 24 (σ 15 9)) _) np_allgood tw_850 tw_851 tw_852 tw_5 tw_853 (nA := 3) (by decide +kernel) rfl ⟨rfl, rfl, Nat.le_of_ble_eq_true rfl, Nat.le_of_ble_eq_true rfl⟩ (nc_o11 _) rfl hat rfl hl.1 (Nat.le_of_ble_eq_true rfl) dd_Tree_growNode_20 hf (fun o1 H locs hf hat => ?_)
  refine np_iastore C hat 16 (nc_a16 _) 0 rfl (by decide) (nc_s16 _ _ _) dd_Tree_growNode_23 hf (fun H locs hat hf => ?_)
  refine lv_aload_n C.x C.b dd_Tree_growNode_24 rfl (lv_at hl 0 rfl) ?_
  refine np_get (v := .ref (q 18)) C i_Tree hat.1 15 (nc_o15 _) rfl 5 (by decide) tw_148 rfl rfl dd_Tree_growNode_25 ?_
  refine lv_iload_n C.x C.b dd_Tree_growNode_28 rfl (lv_at hl 1 rfl) ?_
  refine lv_iload_n C.x C.b dd_Tree_growNode_29 rfl (lv_at hl 2 rfl) ?_
  refine np_iastore C hat 18 (nc_a18 _) 0 rfl (by decide) (nc_s18 _ _ _) dd_Tree_growNode_30 hf (fun H locs hat hf => ?_)
  refine lv_aload_n C.x C.b dd_Tree_growNode_31 rfl (lv_at hl 0 rfl) ?_
  refine np_get (v := .ref (q 19)) C i_Tree hat.1 15 (nc_o15 _) rfl 6 (by decide) tw_150 rfl rfl dd_Tree_growNode_32 ?_
  refine lv_iload_n C.x C.b dd_Tree_growNode_35 rfl (lv_at hl 1 rfl) ?_
  refine lv_iload_n C.x C.b dd_Tree_growNode_36 rfl (lv_at hl 3 rfl) ?_
  refine lv_iload_n C.x C.b dd_Tree_growNode_37 rfl (lv_at hl 2 rfl) ?_
  refine np_isub C dd_Tree_growNode_38 ?_
  refine np_iastore C hat 19 (nc_a19 _) 0 rfl (by decide) (nc_s19 _ _ _) dd_Tree_growNode_39 hf (fun H locs hat hf => ?_)
  refine lv_aload_n C.x C.b dd_Tree_growNode_40 rfl (lv_at hl 0 rfl) ?_
  refine np_get (v := .ref (q 20)) C i_Tree hat.1 15 (nc_o15 _) rfl 7 (by decide) tw_152 rfl rfl dd_Tree_growNode_41 ?_
  refine lv_iload_n C.x C.b dd_Tree_growNode_44 rfl (lv_at hl 1 rfl) ?_
  refine lv_aload_n C.x C.b dd_Tree_growNode_45 rfl (lv_at hl 0 rfl) ?_
  refine np_get (v := .ref (q 25)) C i_Tree hat.1 15 (nc_o15 _) rfl 13 (by decide) tw_159 rfl rfl dd_Tree_growNode_46 ?_
  refine lv_aload_n C.x C.b dd_Tree_growNode_49 rfl (lv_at hl 0 rfl) ?_
  refine np_get (v := .int (np_i ((np_st (np_st (np_st o1.2 16 x1 o1.1) 18 x1 x2) 19 x1 (x3 - x2)) 15 9))) C i_Tree hat.1 15 (nc_o15 _) rfl 9 (by decide) tw_155 rfl rfl dd_Tree_growNode_50 ?_
  refine np_iaload C hat.1 25 (nc_a25 _) 0 rfl (by decide) dd_Tree_growNode_53 hf (fun hf => ?_)
  refine np_iastore C hat 20 (nc_a20 _) 0 rfl (by decide) (nc_s20 _ _ _) dd_Tree_growNode_54 hf (fun H locs hat hf => ?_)
  refine lv_aload_n C.x C.b dd_Tree_growNode_55 rfl (lv_at hl 0 rfl) ?_
  refine np_get (v := .ref (q 21)) C i_Tree hat.1 15 (nc_o15 _) rfl 8 (by decide) tw_154 rfl rfl dd_Tree_growNode_56 ?_
  refine lv_iload_n C.x C.b dd_Tree_growNode_59 rfl (lv_at hl 1 rfl) ?_
  refine lv_aload_n C.x C.b dd_Tree_growNode_60 rfl (lv_at hl 0 rfl) ?_
  refine np_get (v := .ref (q 24)) C i_Tree hat.1 15 (nc_o15 _) rfl 12 (by decide) tw_158 rfl rfl dd_Tree_growNode_61 ?_
  refine lv_aload_n C.x C.b dd_Tree_growNode_64 rfl (lv_at hl 0 rfl) ?_
  refine np_get (v := .int (np_i ((np_st (np_st (np_st (np_st o1.2 16 x1 o1.1) 18 x1 x2) 19 x1 (x3 - x2)) 20 x1 ((np_st (np_st (np_st o1.2 16 x1 o1.1) 18 x1 x2) 19 x1 (x3 - x2)) 25 ((np_st (np_st (np_st o1.2 16 x1 o1.1) 18 x1 x2) 19 x1 (x3 - x2)) 15 9))) 15 9))) C i_Tree hat.1 15 (nc_o15 _) rfl 9 (by decide) tw_155 rfl rfl dd_Tree_growNode_65 ?_
  refine np_iaload C hat.1 24 (nc_a24 _) 0 rfl (by decide) dd_Tree_growNode_68 hf (fun hf => ?_)
  refine np_iastore C hat 21 (nc_a21 _) 0 rfl (by decide) (nc_s21 _ _ _) dd_Tree_growNode_69 hf (fun H locs hat hf => ?_)
  refine lv_aload_n C.x C.b dd_Tree_growNode_70 rfl (lv_at hl 0 rfl) ?_
  refine np_get (v := .ref (q 17)) C i_Tree hat.1 15 (nc_o15 _) rfl 4 (by decide) tw_146 rfl rfl dd_Tree_growNode_71 ?_
  refine lv_iload_n C.x C.b dd_Tree_growNode_74 rfl (lv_at hl 1 rfl) ?_
  refine lv_aload_n C.x C.b dd_Tree_growNode_75 rfl (lv_at hl 0 rfl) ?_
  refine lv_iload_n C.x C.b dd_Tree_growNode_76 rfl (lv_at hl 1 rfl) ?_
  refine lv_iload_n C.x C.b dd_Tree_growNode_77 rfl (lv_at hl 2 rfl) ?_
  refine lv_iload_n C.x C.b dd_Tree_growNode_78 rfl (lv_at hl 3 rfl) ?_
  refine np_callVi (As := [.int (np_i x1), .int (np_i x2), .int (np_i x3)]) (rest := [.int (np_i x1), .ref (q 17)]) C (c_Tree_awaitHoles l x1 x2 x3 _) np_allgood tw_854 tw_856 tp_24 tw_6 tw_857 (nA := 3) (by decide +kernel) rfl ⟨rfl, rfl, Nat.le_of_ble_eq_true rfl, Nat.le_of_ble_eq_true rfl⟩ (nc_o15 _) rfl hat rfl hl.1 (Nat.le_of_ble_eq_true rfl) dd_Tree_growNode_79 hf (fun o2 H locs hf hat => ?_)
  refine np_iastore C hat 17 (nc_a17 _) 0 rfl (by decide) (nc_s17 _ _ _) dd_Tree_growNode_82 hf (fun H locs hat hf => ?_)
  exact hQ _ _ _ _ dd_Tree_growNode_83 hf hat
set_option maxHeartbeats 4000000 in
set_option maxRecDepth 100000 in
theorem c_Tree_growNode (l : Launch) {gA : Nat → Nat} {D : va_G} {q : Nat → Nat} {cI cL cB : ClassId} (x1 x2 x3 : Int) (σ : np_S) : np_Mv gA l D np_cl (np_ty cI cL cB) (nc_wd q cI cL cB) yy_Tree_growNode (.code yy_Tree_growNode prog_7_method_5_code 4 none :: np_al) { frames := 3, cells := 0, slots := 0, locals := 77 } [.ref (q 15), .int (np_i x1), .int (np_i x2), .int (np_i x3)] σ (f_Tree_growNode x1 x2 x3 σ) :=
  np_mkv (by decide +kernel) (Nat.le_of_ble_eq_true rfl) (fun o p e R s m args below meth c Q A ls hf C hQ hat hl => w_f_Tree_growNode C hQ x1 x2 x3 σ _ _ _ hf hat (lv_sub hl [0, 1, 2, 3] rfl))
set_option maxHeartbeats 4000000 in
set_option maxRecDepth 100000 in
theorem w_f_Tree_grow_82 (C : np_Cx gA p R s m args c D np_cl (np_ty cI cL cB) A np_al "NotationParse$Tree" prog_7_method_3_code 3 { frames := 4, cells := 0, slots := 0, locals := 100 }) (hQ : ∀ (pc : Nat) (ls : Array Slot) (H : Heap) (locs : List Loc) {σ : np_S}, decode prog_7_method_3_code pc = .ok (.return_, 1) → some ((0 : Int), σ) = some out → np_At D np_cl A (nc_wd q cI cL cB) s σ H locs → W p l e R s m args below meth c H locs 0 0 Q (F0 m pc ls []))   : ∀ (σ : np_S) (H : Heap) (locs : List Loc) (ls : Array Slot), f_Tree_grow_82  σ = some out → np_At D np_cl A (nc_wd q cI cL cB) s σ H locs → lv_has ls 3 [] → W p l e R s m args below meth c H locs 0 0 Q (F0 m 82 ls []) := by
  intro σ H locs ls hf hat hl
  unfold f_Tree_grow_82 at hf
  exact hQ _ _ _ _ dd_Tree_grow_82 hf hat
set_option maxHeartbeats 4000000 in
set_option maxRecDepth 100000 in
theorem w_f_Tree_grow_20 (C : np_Cx gA p R s m args c D np_cl (np_ty cI cL cB) A np_al "NotationParse$Tree" prog_7_method_3_code 3 { frames := 4, cells := 0, slots := 0, locals := 100 }) (hQ : ∀ (pc : Nat) (ls : Array Slot) (H : Heap) (locs : List Loc) {σ : np_S}, decode prog_7_method_3_code pc = .ok (.return_, 1) → some ((0 : Int), σ) = some out → np_At D np_cl A (nc_wd q cI cL cB) s σ H locs → W p l e R s m args below meth c H locs 0 0 Q (F0 m pc ls []))   : ∀ (n : Nat), ∀ (x2 : Int) (σ : np_S) (H : Heap) (locs : List Loc) (ls : Array Slot), f_Tree_grow_20  n x2 σ = some out → np_At D np_cl A (nc_wd q cI cL cB) s σ H locs → lv_has ls 3 [(0, .ref (q 15)), (2, .int (np_i x2))] → W p l e R s m args below meth c H locs 0 0 Q (F0 m 20 ls []) := by
  intro n
  induction n with
  | zero => intro x2 σ H locs ls hf; cases hf
  | succ n ih =>
    intro x2 σ H locs ls hf hat hl
    have h20 := ih
    have hf : f_Tree_grow_20_b  (fun x2 σ => f_Tree_grow_20  n x2 σ) x2 σ = some out := hf
    unfold f_Tree_grow_20_b at hf
    refine lv_iload_n C.x C.b dd_Tree_grow_20 rfl (lv_at hl 1 rfl) ?_
    refine lv_bipush (v := np_i 30) C.x C.b dd_Tree_grow_21 (by decide +kernel) ?_
    refine np_icmp_ge (tgt := 82) C dd_Tree_grow_23 (by decide) hf (fun _ hf => ?_) (fun _ hf => ?_)
    · exact w_f_Tree_grow_82 C hQ   _ _ _ _ hf hat (lv_sub hl [] rfl)
    · refine lv_aload_n C.x C.b dd_Tree_grow_26 rfl (lv_at hl 0 rfl) ?_
      refine np_get (v := .int (np_i (σ 15 9))) C i_Tree hat.1 15 (nc_o15 _) rfl 9 (by decide) tw_155 rfl rfl dd_Tree_grow_27 ?_
      refine np_if_le (tgt := 82) C dd_Tree_grow_30 (by decide) hf (fun _ hf => ?_) (fun _ hf => ?_)
      · exact w_f_Tree_grow_82 C hQ   _ _ _ _ hf hat (lv_sub hl [] rfl)
      · refine lv_aload_n C.x C.b dd_Tree_grow_33 rfl (lv_at hl 0 rfl) ?_
        refine lv_dup C.x C.b dd_Tree_grow_34 rfl ?_
        refine np_get (v := .int (np_i (σ 15 9))) C i_Tree hat.1 15 (nc_o15 _) rfl 9 (by decide) tw_155 rfl rfl dd_Tree_grow_35 ?_
        refine lv_iconst (v := np_i 1) C.x C.b dd_Tree_grow_38 rfl ?_
        refine np_isub C dd_Tree_grow_39 ?_
        refine np_put C i_Tree t_Tree tok_Tree n_Tree hat 15 (nc_o15 _) rfl 9 (by decide) tw_155 rfl rfl (by decide +kernel) (np_narI ((σ 15 9) - 1)) (np_fitI ((σ 15 9) - 1)) (Nat.le_of_ble_eq_true rfl) (nc_s15_9 _ _) dd_Tree_grow_40 (fun H locs hat => ?_)
        refine lv_aload_n C.x C.b dd_Tree_grow_43 rfl (lv_at hl 0 rfl) ?_
        refine lv_iload_n C.x C.b dd_Tree_grow_44 rfl (lv_at hl 1 rfl) ?_
        refine lv_aload_n C.x C.b dd_Tree_grow_45 rfl (lv_at hl 0 rfl) ?_
        refine np_get (v := .ref (q 22)) C i_Tree hat.1 15 (nc_o15 _) rfl 10 (by decide) tw_156 rfl rfl dd_Tree_grow_46 ?_
        refine lv_aload_n C.x C.b dd_Tree_grow_49 rfl (lv_at hl 0 rfl) ?_
        refine np_get (v := .int (np_i ((np_st σ 15 9 ((σ 15 9) - 1)) 15 9))) C i_Tree hat.1 15 (nc_o15 _) rfl 9 (by decide) tw_155 rfl rfl dd_Tree_grow_50 ?_
        refine np_iaload C hat.1 22 (nc_a22 _) 0 rfl (by decide) dd_Tree_grow_53 hf (fun hf => ?_)
        refine lv_aload_n C.x C.b dd_Tree_grow_54 rfl (lv_at hl 0 rfl) ?_
        refine np_get (v := .ref (q 23)) C i_Tree hat.1 15 (nc_o15 _) rfl 11 (by decide) tw_157 rfl rfl dd_Tree_grow_55 ?_
        refine lv_aload_n C.x C.b dd_Tree_grow_58 rfl (lv_at hl 0 rfl) ?_
        refine np_get (v := .int (np_i ((np_st σ 15 9 ((σ 15 9) - 1)) 15 9))) C i_Tree hat.1 15 (nc_o15 _) rfl 9 (by decide) tw_155 rfl rfl dd_Tree_grow_59 ?_
        refine np_iaload C hat.1 23 (nc_a23 _) 0 rfl (by decide) dd_Tree_grow_62 hf (fun hf => ?_)
        refine np_callVv (As := [.int (np_i x2), .int (np_i ((np_st σ 15 9 ((σ 15 9) - 1)) 22 ((np_st σ 15 9 ((σ 15 9) - 1)) 15 9))), .int (np_i ((np_st σ 15 9 ((σ 15 9) - 1)) 23 ((np_st σ 15 9 ((σ 15 9) - 1)) 15 9)))]) (rest := []) C (c_Tree_growNode l x2 ((np_st σ 15 9 ((σ 15 9) - 1)) 22 ((np_st σ 15 9 ((σ 15 9) - 1)) 15 9)) ((np_st σ 15 9 ((σ 15 9) - 1)) 23 ((np_st σ 15 9 ((σ 15 9) - 1)) 15 9)) _) np_allgood tw_846 tw_848 tp_23 tw_6 tw_849 (nA := 3) (by decide +kernel) rfl ⟨rfl, rfl, Nat.le_of_ble_eq_true rfl, Nat.le_of_ble_eq_true rfl⟩ (nc_o15 _) rfl hat rfl hl.1 (Nat.le_of_ble_eq_true rfl) dd_Tree_grow_63 hf (fun o1 H locs hf hat => ?_)
        refine lv_aload_n C.x C.b dd_Tree_grow_66 rfl (lv_at hl 0 rfl) ?_
        refine lv_dup C.x C.b dd_Tree_grow_67 rfl ?_
        refine np_get (v := .int (np_i (o1.2 15 2))) C i_Tree hat.1 15 (nc_o15 _) rfl 2 (by decide) tw_142 rfl rfl dd_Tree_grow_68 ?_
        refine lv_iconst (v := np_i 1) C.x C.b dd_Tree_grow_71 rfl ?_
        refine np_iadd C dd_Tree_grow_72 ?_
        refine np_put C i_Tree t_Tree tok_Tree n_Tree hat 15 (nc_o15 _) rfl 2 (by decide) tw_142 rfl rfl (by decide +kernel) (np_narI ((o1.2 15 2) + 1)) (np_fitI ((o1.2 15 2) + 1)) (Nat.le_of_ble_eq_true rfl) (nc_s15_2 _ _) dd_Tree_grow_73 (fun H locs hat => ?_)
        refine lv_iinc (v := np_i (x2 + 1)) (lv' := [(2, .int (np_i (x2 + 1))), (0, .ref (q 15))]) C.x C.b dd_Tree_grow_76 hl (k := 1) rfl (np_inc _ _) (by decide) rfl (fun ls hl => ?_)
        refine lv_goto (tgt := 20) C.x C.b dd_Tree_grow_79 (by decide) ?_
        exact h20 _ _ _ _ _ hf hat (lv_sub hl [1, 0] rfl)
set_option maxHeartbeats 4000000 in
set_option maxRecDepth 100000 in
theorem w_f_Tree_grow (C : np_Cx gA p R s m args c D np_cl (np_ty cI cL cB) A np_al "NotationParse$Tree" prog_7_method_3_code 3 { frames := 4, cells := 0, slots := 0, locals := 100 }) (hQ : ∀ (pc : Nat) (ls : Array Slot) (H : Heap) (locs : List Loc) {σ : np_S}, decode prog_7_method_3_code pc = .ok (.return_, 1) → some ((0 : Int), σ) = some out → np_At D np_cl A (nc_wd q cI cL cB) s σ H locs → W p l e R s m args below meth c H locs 0 0 Q (F0 m pc ls []))   : ∀ (x1 : Int) (σ : np_S) (H : Heap) (locs : List Loc) (ls : Array Slot), f_Tree_grow  x1 σ = some out → np_At D np_cl A (nc_wd q cI cL cB) s σ H locs → lv_has ls 3 [(0, .ref (q 15)), (1, .int (np_i x1))] → W p l e R s m args below meth c H locs 0 0 Q (F0 m 0 ls []) := by
  intro x1 σ H locs ls hf hat hl
  unfold f_Tree_grow at hf
  refine lv_aload_n C.x C.b dd_Tree_grow_0 rfl (lv_at hl 0 rfl) ?_
  refine lv_iconst (v := np_i 0) C.x C.b dd_Tree_grow_1 rfl ?_
  refine np_put C i_Tree t_Tree tok_Tree n_Tree hat 15 (nc_o15 _) rfl 2 (by decide) tw_142 rfl rfl (by decide +kernel) (np_narI 0) (np_fitI 0) (Nat.le_of_ble_eq_true rfl) (nc_s15_2 _ _) dd_Tree_grow_2 (fun H locs hat => ?_)
  refine lv_aload_n C.x C.b dd_Tree_grow_5 rfl (lv_at hl 0 rfl) ?_
  refine lv_iconst (v := np_i 0) C.x C.b dd_Tree_grow_6 rfl ?_
  refine np_put C i_Tree t_Tree tok_Tree n_Tree hat 15 (nc_o15 _) rfl 9 (by decide) tw_155 rfl rfl (by decide +kernel) (np_narI 0) (np_fitI 0) (Nat.le_of_ble_eq_true rfl) (nc_s15_9 _ _) dd_Tree_grow_7 (fun H locs hat => ?_)
  refine lv_aload_n C.x C.b dd_Tree_grow_10 rfl (lv_at hl 0 rfl) ?_
  refine lv_iconst (v := np_i 0) C.x C.b dd_Tree_grow_11 rfl ?_
  refine lv_iload_n C.x C.b dd_Tree_grow_12 rfl (lv_at hl 1 rfl) ?_
  refine lv_iconst (v := np_i 0) C.x C.b dd_Tree_grow_13 rfl ?_
  refine lv_iconst (v := np_i (-1)) C.x C.b dd_Tree_grow_14 rfl ?_
  refine np_callVv (As := [.int (np_i 0), .int (np_i x1), .int (np_i 0), .int (np_i ((-1)))]) (rest := []) C (c_Tree_await l 0 x1 0 ((-1)) _) np_allgood tw_842 tw_844 tp_22 tw_6 tw_845 (nA := 4) (by decide +kernel) rfl ⟨rfl, rfl, Nat.le_of_ble_eq_true rfl, Nat.le_of_ble_eq_true rfl⟩ (nc_o15 _) rfl hat rfl hl.1 (Nat.le_of_ble_eq_true rfl) dd_Tree_grow_15 hf (fun o2 H locs hf hat => ?_)
  refine lv_iconst (v := np_i 0) C.x C.b dd_Tree_grow_18 rfl ?_
  refine lv_istore_n (lv' := [(2, .int (np_i 0)), (0, .ref (q 15)), (1, .int (np_i x1))]) C.x C.b dd_Tree_grow_19 rfl hl (by decide) rfl (fun ls hl => ?_)
  exact w_f_Tree_grow_20 C hQ  6000 _ _ _ _ _ hf hat (lv_sub hl [1, 0] rfl)
set_option maxHeartbeats 4000000 in
set_option maxRecDepth 100000 in
theorem c_Tree_grow (l : Launch) {gA : Nat → Nat} {D : va_G} {q : Nat → Nat} {cI cL cB : ClassId} (x1 : Int) (σ : np_S) : np_Mv gA l D np_cl (np_ty cI cL cB) (nc_wd q cI cL cB) yy_Tree_grow (.code yy_Tree_grow prog_7_method_3_code 3 none :: np_al) { frames := 4, cells := 0, slots := 0, locals := 100 } [.ref (q 15), .int (np_i x1)] σ (f_Tree_grow x1 σ) :=
  np_mkv (by decide +kernel) (Nat.le_of_ble_eq_true rfl) (fun o p e R s m args below meth c Q A ls hf C hQ hat hl => w_f_Tree_grow C hQ x1 σ _ _ _ hf hat (lv_sub hl [0, 1] rfl))
set_option maxHeartbeats 4000000 in
set_option maxRecDepth 100000 in
theorem w_f_Spelling_lowBytes_20 (C : np_Cx gA p R s m args c D np_cl (np_ty cI cL cB) A np_al "NotationParse$Spelling" prog_5_method_4_code 3 { frames := 0, cells := 0, slots := 0, locals := 0 }) (hQ : ∀ (pc : Nat) (ls : Array Slot) (H : Heap) (locs : List Loc) (v : Int) {σ : np_S}, decode prog_5_method_4_code pc = .ok (.lreturn, 1) → some (v, σ) = some out → np_At D np_cl A (nc_wd q cI cL cB) s σ H locs → W p l e R s m args below meth c H locs 0 0 Q (F0 m pc ls [.long (np_l v)]))   : ∀ (t0 : Int) (σ : np_S) (H : Heap) (locs : List Loc) (ls : Array Slot), f_Spelling_lowBytes_20  t0 σ = some out → np_At D np_cl A (nc_wd q cI cL cB) s σ H locs → lv_has ls 3 [] → W p l e R s m args below meth c H locs 0 0 Q (F0 m 20 ls [.long (np_l t0)]) := by
  intro t0 σ H locs ls hf hat hl
  unfold f_Spelling_lowBytes_20 at hf
  exact hQ _ _ _ _ _ dd_Spelling_lowBytes_20 hf hat
set_option maxHeartbeats 4000000 in
set_option maxRecDepth 100000 in
theorem w_f_Spelling_lowBytes (C : np_Cx gA p R s m args c D np_cl (np_ty cI cL cB) A np_al "NotationParse$Spelling" prog_5_method_4_code 3 { frames := 0, cells := 0, slots := 0, locals := 0 }) (hQ : ∀ (pc : Nat) (ls : Array Slot) (H : Heap) (locs : List Loc) (v : Int) {σ : np_S}, decode prog_5_method_4_code pc = .ok (.lreturn, 1) → some (v, σ) = some out → np_At D np_cl A (nc_wd q cI cL cB) s σ H locs → W p l e R s m args below meth c H locs 0 0 Q (F0 m pc ls [.long (np_l v)]))   : ∀ (x0 x2 : Int) (σ : np_S) (H : Heap) (locs : List Loc) (ls : Array Slot), f_Spelling_lowBytes  x0 x2 σ = some out → np_At D np_cl A (nc_wd q cI cL cB) s σ H locs → lv_has ls 3 [(0, .long (np_l x0)), (2, .int (np_i x2))] → W p l e R s m args below meth c H locs 0 0 Q (F0 m 0 ls []) := by
  intro x0 x2 σ H locs ls hf hat hl
  unfold f_Spelling_lowBytes at hf
  refine lv_iload_n C.x C.b dd_Spelling_lowBytes_0 rfl (lv_at hl 1 rfl) ?_
  refine lv_bipush (v := np_i 8) C.x C.b dd_Spelling_lowBytes_1 (by decide +kernel) ?_
  refine np_icmp_lt (tgt := 10) C dd_Spelling_lowBytes_3 (by decide) hf (fun _ hf => ?_) (fun _ hf => ?_)
  · refine lv_lload_n C.x C.b dd_Spelling_lowBytes_10 rfl (lv_at hl 0 rfl) ?_
    refine lv_lconst (v := np_l 1) C.x C.b dd_Spelling_lowBytes_11 (by decide +kernel) ?_
    refine lv_bipush (v := np_i 8) C.x C.b dd_Spelling_lowBytes_12 (by decide +kernel) ?_
    refine lv_iload_n C.x C.b dd_Spelling_lowBytes_14 rfl (lv_at hl 1 rfl) ?_
    refine np_imul C dd_Spelling_lowBytes_15 ?_
    refine np_lshl C dd_Spelling_lowBytes_16 ?_
    refine lv_lconst (v := np_l 1) C.x C.b dd_Spelling_lowBytes_17 (by decide +kernel) ?_
    refine np_lsub C dd_Spelling_lowBytes_18 ?_
    refine np_land C dd_Spelling_lowBytes_19 ?_
    exact w_f_Spelling_lowBytes_20 C hQ  _ _ _ _ _ hf hat (lv_sub hl [] rfl)
  · refine lv_lload_n C.x C.b dd_Spelling_lowBytes_6 rfl (lv_at hl 0 rfl) ?_
    refine lv_goto (tgt := 20) C.x C.b dd_Spelling_lowBytes_7 (by decide) ?_
    exact w_f_Spelling_lowBytes_20 C hQ  _ _ _ _ _ hf hat (lv_sub hl [] rfl)
set_option maxHeartbeats 4000000 in
set_option maxRecDepth 100000 in
theorem c_Spelling_lowBytes (l : Launch) {gA : Nat → Nat} {D : va_G} {q : Nat → Nat} {cI cL cB : ClassId} (x0 x2 : Int) (σ : np_S) : np_Ml gA l D np_cl (np_ty cI cL cB) (nc_wd q cI cL cB) yy_Spelling_lowBytes (.code yy_Spelling_lowBytes prog_5_method_4_code 3 (some .long) :: np_al) { frames := 0, cells := 0, slots := 0, locals := 0 } [.long (np_l x0), .int (np_i x2)] σ (f_Spelling_lowBytes x0 x2 σ) :=
  np_mkl (by decide +kernel) (Nat.le_of_ble_eq_true rfl) (fun o p e R s m args below meth c Q A ls hf C hQ hat hl => w_f_Spelling_lowBytes C hQ x0 x2 σ _ _ _ hf hat (lv_sub hl [0, 1] rfl))
end NW4
